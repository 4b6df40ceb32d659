/-! ===== what is due is dropped alike ===== -/
/-- pending event k is the same on both sides -/
def PND (A : Hp) (wo : Nat) (B : Hp) (u : Nat) (E : Nat → Nat → Nat) (k : Nat) : Prop := A.D (wo + 4) (7 * k) = B.D (u + 5) k ∧ A.D (wo + 4) (7 * k + 1) = B.D (u + 6) k ∧ A.D (wo + 4) (7 * k + 2) = B.D (u + 7) k ∧ (∀ e q, B.D (u + 5) k = nI e → e < E 9 0 → q < E 10 e → A.D (wo + 4) (7 * k + 3 + q) = B.D (u + 8) (4 * k + q) ∧ (E 12 (4 * e + q) = 4 → SVx E (B.D (u + 8) (4 * k + q)))) ∧ ∃ e, e < E 9 0 ∧ B.D (u + 5) k = nI e
def DDA (wo a f : Nat) : Prop := a = wo + 4 ∨ (a = wo ∧ f = 13)
def DDB (u a f : Nat) : Prop := (u + 5 ≤ a ∧ a ≤ u + 8) ∨ (a = u ∧ f = 8)
section Par
variable {N p wo inp cs w u ir M K0 : Nat} {s pl : Int32} {ty mn nu cd : Nat → Int32} {E Q : Nat → Nat → Nat} {V : Nat → Nat → Int32} {nL lc : Nat} {lk : Nat → Nat} {hd : Nat → Int32}
theorem due_jo {P : Nat} (hN : 300 ≤ N) (hE : WE E) (hP : P ≤ 256) : ∀ j i2 i1 nA nB A B, i2 + j = P → i1 ≤ i2 → j < nA → j < nB → isW A wo → isU B u → A.D wo 13 = nI P → B.D u 8 = nI P → A.D wo 0 = B.D u 0 → (∀ k, k < i1 ∨ i2 ≤ k → k < P → PND A wo B u E k) → ∃ A2 B2 P2, B_World_dropDue_4 N wo nA (nI i1) (nI i2) A = some ((), A2) ∧ B_MWorld_clears_4 N u nB (nI i1) (nI i2) B = some ((), B2) ∧ same (DDA wo) A A2 ∧ same (DDB u) B B2 ∧ P2 ≤ P ∧ A2.D wo 13 = nI P2 ∧ B2.D u 8 = nI P2 ∧ ∀ k, k < P2 → PND A2 wo B2 u E k := by
  intro j
  induction j with
  | zero =>
    intro i2 i1 nA nB A B h2 h1 hA hB W U a13 b8 t0 hk
    obtain ⟨nA, rfl⟩ : ∃ y, nA = y + 1 := ⟨nA - 1, by omega⟩
    obtain ⟨nB, rfl⟩ : ∃ y, nB = y + 1 := ⟨nB - 1, by omega⟩
    refine ⟨A.sD wo 13 (nI i1), B.sD u 8 (nI i1), i1, ?_, ?_, same.rf.sD (.inr ⟨rfl, rfl⟩), same.rf.sD (.inr ⟨rfl, rfl⟩), by omega, rds, rds, fun k hk' => ?_⟩
    · rw [B_World_dropDue_4, ck_t (WS W), bnd_t, a13, if_pos (show nI P ≤ nI i2 from nI_le (by omega) (by omega)), bnd_t]
    · rw [B_MWorld_clears_4, ck_t (US U), bnd_t, b8, if_pos (show nI P ≤ nI i2 from nI_le (by omega) (by omega)), bnd_t]
    · obtain ⟨m0, m1, m2, m3, m4⟩ := hk k (.inl hk') (by omega)
      unfold PND
      rw [rdw (by omega), rdw (by omega), rdw (by omega), rdw (by omega), rdw (by omega), rdw (by omega)]
      exact ⟨m0, m1, m2, fun e q y1 y2 y3 => by rw [rdw (by omega), rdw (by omega)]; exact m3 e q y1 y2 y3, m4⟩
  | succ j ih =>
    intro i2 i1 nA nB A B h2 h1 hA hB W U a13 b8 t0 hk
    obtain ⟨nA, rfl⟩ : ∃ y, nA = y + 1 := ⟨nA - 1, by omega⟩
    obtain ⟨nB, rfl⟩ : ∃ y, nB = y + 1 := ⟨nB - 1, by omega⟩
    have pk := hk i2 (.inr (by omega)) (by omega)
    have e7 : ∀ k, nI k * (7 : Int32) = nI (7 * k) := fun k => by rw [Nat.mul_comm]; exact nI_mu k 7
    have eA : B_World_dropDue_4 N wo (nA + 1) (nI i1) (nI i2) A = if B.D (u + 6) i2 = B.D u 0 then B_World_dropDue_4 N wo nA (nI i1) (nI (i2 + 1)) A else B_World_dropDue_4 N wo nA (nI (i1 + 1)) (nI (i2 + 1)) (A.cpy (wo + 4) (wo + 4) (7 * i2) (7 * i1) 7) := by
      have c7 : ((7 : Int32)).toNatClampNeg = 7 := rfl
      rw [B_World_dropDue_4, ck_t (WS W), bnd_t, a13, if_neg (show ¬ nI P ≤ nI i2 from nI_ge (by omega) (by omega)), rf_t (WP_12 W), ar_t (WA_12 W), e7, e7, nI_1, rdI (show 7 * i2 + 1 < 1792 by omega) (by decide), pk.2.1, bnd_t, t0, rf_t (WP_12 W), rf_t (WP_12 W), ar_t (WA_12 W), ar_t (WA_12 W), ck_t (show ¬ nI (7 * i2) < (0 : Int32) from nI_nlt (b := 0) (by omega) (by omega)), ck_t (show ¬ nI (7 * i1) < (0 : Int32) from nI_nlt (b := 0) (by omega) (by omega)), ck_t (by decide), c7, cN (by omega), cN (by omega), ck_t (by omega), ck_t (by omega), bnd_t]
      unfold B_World_dropDue_54
      rw [nI_1, nI_1]
    obtain ⟨Bm, k1, k2, k3, k4, k5, k6⟩ := ev_mv (N := N) (a := i2) (b := i1) hN (by omega) (by omega) (.inl rfl) U U
    have eB : B_MWorld_clears_4 N u (nB + 1) (nI i1) (nI i2) B = if B.D (u + 6) i2 = B.D u 0 then B_MWorld_clears_4 N u nB (nI i1) (nI (i2 + 1)) B else B_MWorld_clears_4 N u nB (nI (i1 + 1)) (nI (i2 + 1)) Bm := by
      rw [B_MWorld_clears_4, ck_t (US U), bnd_t, b8, if_neg (show ¬ nI P ≤ nI i2 from nI_ge (by omega) (by omega)), rf_t (UP_10 U), ar_t (UA_10 U), rdI (show i2 < 256 by omega) (by decide), bnd_t, bC_t k1]
      unfold B_MWorld_clears_38
      rw [nI_1, nI_1]
    by_cases y : B.D (u + 6) i2 = B.D u 0
    · rw [if_pos y] at eA eB
      obtain ⟨A2, B2, P2, r1, r2, r3⟩ := ih (i2 + 1) i1 nA nB A B (by omega) (by omega) (by omega) (by omega) W U a13 b8 t0 (fun k h hk' => hk k (by omega) hk')
      exact ⟨A2, B2, P2, by rw [eA]; exact r1, by rw [eB]; exact r2, r3⟩
    · rw [if_neg y] at eA eB
      have cA : ∀ f, (A.cpy (wo + 4) (wo + 4) (7 * i2) (7 * i1) 7).D (wo + 4) f = if 7 * i1 ≤ f ∧ f < 7 * i1 + 7 then A.D (wo + 4) (7 * i2 + (f - 7 * i1)) else A.D (wo + 4) f := fun f => by
        rw [cpy_Dq, if_pos rfl]
        rfl
      have dA : ∀ a f, a ≠ wo + 4 → (A.cpy (wo + 4) (wo + 4) (7 * i2) (7 * i1) 7).D a f = A.D a f := fun a f z => by rw [cpy_Dq, if_neg z]
      have sA : same (DDA wo) A (A.cpy (wo + 4) (wo + 4) (7 * i2) (7 * i1) 7) := ⟨fun a f z => dA a f (fun x => z (.inl x)), rfl, rfl, rfl, rfl⟩
      have sB : same (DDB u) B Bm := k2.mono fun a f z => by unfold MVB at z; unfold DDB; omega
      have Um : isU Bm u := by
        obtain ⟨q1, q2, q3, q4, q5⟩ := k2
        unfold isU at U ⊢
        rw [q2, q4]
        exact U
      have WC : isW (A.cpy (wo + 4) (wo + 4) (7 * i2) (7 * i1) 7) wo := W
      generalize A.cpy (wo + 4) (wo + 4) (7 * i2) (7 * i1) 7 = Am at *
      obtain ⟨A2, B2, P2, r1, r2, r3, r4, r5⟩ := ih (i2 + 1) (i1 + 1) nA nB Am Bm (by omega) (by omega) (by omega) (by omega) WC Um (by rw [dA _ _ (by omega)]; exact a13) (by rw [k2.1 _ _ (by unfold MVB; omega)]; exact b8) (by rw [dA _ _ (by omega), k2.1 _ _ (by unfold MVB; omega)]; exact t0) (fun k h hk' => by
        by_cases z : k = i1
        · subst z
          obtain ⟨m0, m1, m2, m3, m4⟩ := pk
          refine ⟨?_, ?_, ?_, fun e q y1 y2 y3 => ?_, by rw [k3]; exact m4⟩
          · rw [cA, if_pos (by omega), k3, ← m0, show 7 * i2 + (7 * k - 7 * k) = 7 * i2 by omega]
          · rw [cA, if_pos (by omega), k4, ← m1, show 7 * i2 + (7 * k + 1 - 7 * k) = 7 * i2 + 1 by omega]
          · rw [cA, if_pos (by omega), k5, ← m2, show 7 * i2 + (7 * k + 2 - 7 * k) = 7 * i2 + 2 by omega]
          · have e4 := (hE.2.2.2.2.2.2.2.1 e y2).1
            rw [k3] at y1
            obtain ⟨n1, n2⟩ := m3 e q y1 y2 y3
            refine ⟨?_, ?_⟩
            · rw [cA, if_pos (by omega), k6 q (by omega), ← n1, show 7 * i2 + (7 * k + 3 + q - 7 * k) = 7 * i2 + 3 + q by omega]
            · rw [k6 q (by omega)]
              exact n2
        · obtain ⟨m0, m1, m2, m3, m4⟩ := hk k (by omega) hk'
          refine ⟨?_, ?_, ?_, fun e q y1 y2 y3 => ?_, by rw [k2.1 (u + 5) k (by unfold MVB; omega)]; exact m4⟩
          · rw [cA, if_neg (by omega), k2.1 _ _ (by unfold MVB; omega)]; exact m0
          · rw [cA, if_neg (by omega), k2.1 _ _ (by unfold MVB; omega)]; exact m1
          · rw [cA, if_neg (by omega), k2.1 _ _ (by unfold MVB; omega)]; exact m2
          · have e4 := (hE.2.2.2.2.2.2.2.1 e y2).1
            rw [k2.1 _ _ (by unfold MVB; omega)] at y1
            rw [cA, if_neg (by omega), k2.1 _ _ (by unfold MVB; omega)]
            exact m3 e q y1 y2 y3)
      exact ⟨A2, B2, P2, by rw [eA]; exact r1, by rw [eB]; exact r2, sA.tr r3, sB.tr r4, r5⟩
end Par
