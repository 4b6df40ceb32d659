/-! ===== the call input ===== -/
section Par
variable {N p wo inp cs w u ir M K0 : Nat} {s pl : Int32} {ty mn nu cd : Nat → Int32} {E Q : Nat → Nat → Nat} {V : Nat → Nat → Int32} {nL lc : Nat} {lk : Nat → Nat} {hd : Nat → Int32}
/-- the reference behind its refusals -/
def inB (N n : Nat) (pl t : Nat) (v : Int32) (B : Hp) : Option (Int32 × Hp) := if n < t then B_M_input_156 N 517 (nI pl) (nI t) v 0 B else bC (F_M_bitsOf N 517 (nI t) B) fun _ H107 => if H107.D 620 pl = v then B_M_input_156 N 517 (nI pl) (nI t) v 0 H107 else B_M_input_156 N 517 (nI pl) (nI t) v ((nI n - nI t) + (1 : Int32)) H107
theorem acc_jo {S : Nat → Nat} {kT : Nat} {nb b t0 la z us un c n pl t : Nat} {v : Int32} {Nm : Nat → Nat → List Nat} {Pv : Nat → Nat → Int32} {A B : Hp} (h : PLI N p cs w M ty mn nu cd E Nm Pv S b t0 A la z B us un c n) (hTl : TLD kT A B) (hag : A.D 11 3 = B.D 517 13) (hQ : TXQ M cs ty mn nu cd E Pv) (hM : M + 2 ≤ N) (hN : 2000000 ≤ N) (hb : BNS S nb) (hcn : nb + (b + 16 * (n - t0)) + 20 < 8388608) (hp : pl < 4) (hct : c < t) (htn : t ≤ n + 16) (hst : t ≤ n → ¬ ((A.D 128 (t % 16) >>> (nI pl &&& 31)) &&& (1 : Int32)) = 0) : ∃ A2 B2 la2 z2 c2 k, F_Play_accept N 11 p (nI pl) (nI t) v A = some (nI k, A2) ∧ inB N n pl t v B = some (nI k, B2) ∧ PLI N p cs w M ty mn nu cd E Nm Pv S b t0 A2 la2 z2 B2 us un c2 n ∧ TLD (kT + 32 * (c2 - c)) A2 B2 ∧ A2.D 11 3 = B2.D 517 13 ∧ exT IPA A la z A2 la2 z2 ∧ smT (IPB us un) B B2 ∧ c ≤ c2 := by
  have h' := h
  obtain ⟨⟨hGA, hGB, hTx, hL⟩, ⟨hus, hun, hne, b8, b9, b3⟩, ⟨n0, n1, n2, n3, n4, n5, n6⟩, ⟨Qn, x1, x2, x3⟩, ⟨Qs, y1, y2, y3⟩, hLk, hRw, hCm⟩ := h
  have hu1 := lU_le hus
  have hu2 := lU_le hun
  have t31 : t < 2 ^ 31 := by omega
  obtain ⟨N1, hN1⟩ : ∃ y, N = y + 1 := ⟨N - 1, by omega⟩
  have eA := ac_hdA (N := N) (p := p) (v := v) hGA hp t31 n6
  have sA : same (fun a f => (a = 125 ∨ a = 126) ∧ f = 64 * pl + t % 64) A ((A.sD 125 (64 * pl + t % 64) 1).sD 126 (64 * pl + t % 64) v) := (same.rf.sD ⟨.inl rfl, rfl⟩).sD ⟨.inr rfl, rfl⟩
  have a5 : ((A.sD 125 (64 * pl + t % 64) 1).sD 126 (64 * pl + t % 64) v).D 125 (64 * pl + t % 64) = 1 := by rw [rdw (by decide), rds]
  have a6 : ((A.sD 125 (64 * pl + t % 64) 1).sD 126 (64 * pl + t % 64) v).D 126 (64 * pl + t % 64) = v := rds
  generalize (A.sD 125 (64 * pl + t % 64) 1).sD 126 (64 * pl + t % 64) v = A' at *
  have hGA' : Gr A' := sA.gr hGA
  have a12 : A'.D 12 0 = nI n := by rw [sA.1 _ _ (by omega)]; exact n6
  have a11 : A'.D 11 1 = nI c := by rw [sA.1 _ _ (by omega)]; exact n4
  have hTl' : ∀ Bx B', same (fun a f => a = 620) B Bx → B' = (Bx.sD 616 (64 * pl + t % 64) v).sD 617 (64 * pl + t % 64) 1 → TLD kT A' B' ∧ A'.D 11 3 = B'.D 517 13 ∧ same (fun a f => ((a = 616 ∨ a = 617) ∧ f = 64 * pl + t % 64) ∨ a = 620) B B' ∧ B'.D 617 (64 * pl + t % 64) = 1 ∧ B'.D 616 (64 * pl + t % 64) = v := fun Bx B' k1 k2 => by
    have s : same (fun a f => ((a = 616 ∨ a = 617) ∧ f = 64 * pl + t % 64) ∨ a = 620) B B' := by
      rw [k2]
      exact ((k1.mono fun a f y => .inr y).sD (.inl ⟨.inl rfl, rfl⟩)).sD (.inl ⟨.inr rfl, rfl⟩)
    refine ⟨hTl.fr (fun a f y => sA.1 _ _ (by omega)) (fun a f y => s.1 _ _ (by omega)), ?_, s, by rw [k2, rds], by rw [k2, rdw (by decide), rds]⟩
    · rw [sA.1 _ _ (by omega), s.1 _ _ (by omega)]; exact hag
  -- nothing is run again
  have fin : ∀ Bx, same (fun a f => a = 620) B Bx → (n < t ∨ v = inF (A.D 125) (A.D 126) (A.D 127) c pl t) → F_Play_accept N 11 p (nI pl) (nI t) v A = B_Play_accept_77 N 11 p (nI pl) (nI t) v 0 A' → inB N n pl t v B = B_M_input_156 N 517 (nI pl) (nI t) v 0 Bx → ∃ A2 B2 la2 z2 c2 k, F_Play_accept N 11 p (nI pl) (nI t) v A = some (nI k, A2) ∧ inB N n pl t v B = some (nI k, B2) ∧ PLI N p cs w M ty mn nu cd E Nm Pv S b t0 A2 la2 z2 B2 us un c2 n ∧ TLD (kT + 32 * (c2 - c)) A2 B2 ∧ A2.D 11 3 = B2.D 517 13 ∧ exT IPA A la z A2 la2 z2 ∧ smT (IPB us un) B B2 ∧ c ≤ c2 := fun Bx k1 k2 k3 k4 => by
    obtain ⟨q1, q2, q3, q4, q5⟩ := hTl' Bx _ k1 rfl
    have hP := h'.set hQ.1 hp hct htn sA q3 a5 a6 q4 q5 k2
    rw [ac_hdB (k1.gr hGB) hp t31, if_pos (by decide)] at k4
    generalize (Bx.sD 616 (64 * pl + t % 64) v).sD 617 (64 * pl + t % 64) 1 = B' at *
    obtain ⟨A6, B6, c6, g1, g2, g3, g4, g5, g6, g7, g8⟩ := ac_end (N := N) (nA := N1) (p1 := nI pl) (p2 := nI t) (v := v) (k := 0) hP q1 q2 hQ hM hN hb hcn (by omega)
    refine ⟨A6, B6, la, z, c6, 0, ?_, k4.trans g2, g3, g4, g5, ((sA.mono fun a f y => by unfold IPA; omega).tr (g6.mono fun a f y => by unfold IPA; rcases y with y | y; exact .inr (.inl y); exact .inr (.inr (.inl y)))).exS hL |>.exT, ((q3.mono fun a f y => by unfold IPB; omega : same (IPB us un) B B').smT).tr (g7.mono fun a f y => CFB.ip y), g8⟩
    rw [k3]
    unfold B_Play_accept_77
    have e : B_Play_accept_80 N 11 p (nI pl) (nI t) v N 0 0 A' = B_Play_accept_80 N 11 p (nI pl) (nI t) v (N1 + 1) (nI 0) (nI 0) A' := by rw [← hN1]; rfl
    rw [e]
    exact g1
  have mx : ∀ m H, n < m → m < 2 ^ 31 → F_Math_max N 0 ((nI n - nI m) + 1) H = some (0, H) := fun m H k1 k2 => by
    unfold F_Math_max
    rw [if_neg (neg_le k1 k2)]
  by_cases hnt : n < t
  · refine fin B same.rf (.inl hnt) ?_ (if_pos hnt)
    rw [eA]
    have ef : F_Play_firstWrong N 11 (nI pl) (nI t) A' = some (nI t, A') := by
      unfold F_Play_firstWrong
      have := ev_fw0 (N := N) (pl := nI pl) (p2 := nI t) (f := N1) hGA' a12 hnt t31
      rw [← hN1] at this
      exact this
    rw [bC_t ef, bC_t (mx t _ hnt t31), if_pos (by decide)]
  · obtain ⟨B1, q1, q2, q3⟩ := ev_bitsOf (N := N) (u := us) (c := c) (t := t) (by omega) hus (by omega) t31 (by omega) 4 N 0 B (by omega) (by omega) hGB b8 n5
    have hq : F_M_bitsOf N 517 (nI t) B = some ((), B1) := q1
    have s620 : same (fun a f => a = 620) B B1 := q2.mono fun a f y => y.1
    obtain ⟨k1, k2⟩ := hRw t hct (by omega)
    have st := hst (by omega)
    have bit : ipV (A.D 128 (t % 16)) (A.D 125) (A.D 126) (A.D 127) c pl t = inF (A.D 125) (A.D 126) (A.D 127) c pl t := by
      unfold ipV
      rw [if_neg st]
    have bv : B1.D 620 pl = inF (A.D 125) (A.D 126) (A.D 127) c pl t := by
      rw [q3 pl (by omega) hp, ← k2, ← hCm.ip hp, bit]
    have eI : inB N n pl t v B = if B1.D 620 pl = v then B_M_input_156 N 517 (nI pl) (nI t) v 0 B1 else B_M_input_156 N 517 (nI pl) (nI t) v ((nI n - nI t) + (1 : Int32)) B1 := by
      unfold inB
      rw [if_neg hnt, bC_t hq]
    by_cases hv : B1.D 620 pl = v
    · rw [if_pos hv] at eI
      refine fin B1 s620 (.inr (by rw [← hv, bv])) ?_ eI
      have hP := h'.set hQ.1 hp hct htn sA (hTl' B1 _ s620 rfl).2.2.1 a5 a6 (hTl' B1 _ s620 rfl).2.2.2.1 (hTl' B1 _ s620 rfl).2.2.2.2 (.inr (by rw [← hv, bv]))
      have hR' := hP.2.2.2.2.2.2.1
      have ef : F_Play_firstWrong N 11 (nI pl) (nI t) A' = some (nI (n + 1), A') := ev_fw (N := N) (by omega) hGA' hp a11 n1 n2 n3 a12 (n + 1 - t) t N (by omega) (by omega) (fun x z1 z2 => (hR' x (by omega) z2).1 pl hp)
      rw [eA, bC_t ef, bC_t (mx (n + 1) _ (by omega) (by omega)), if_pos (by decide)]
    · rw [if_neg hv, nI_dif (show t ≤ n by omega), nI_1, ac_hdB (s620.gr hGB) hp t31, if_neg (show ¬ nI (n - t + 1) ≤ (0 : Int32) from nI_ge (a := 0) (by omega) (by omega))] at eI
      obtain ⟨-, -, s3, s4, s5⟩ := hTl' B1 _ s620 rfl
      have in' : inF (A'.D 125) (A'.D 126) (A'.D 127) c pl t = v := by rw [inF_at hct (by rw [a5]; decide), a6]
      have ne : ¬ A'.D 129 (4 * (t % 16) + pl) = ipV (A'.D 128 (t % 16)) (A'.D 125) (A'.D 126) (A'.D 127) c pl t := by
        unfold ipV
        rw [sA.1 128 _ (by omega), if_neg st, in', sA.1 129 _ (by omega), k1 pl hp, bit, ← bv]
        exact hv
      have ef : F_Play_firstWrong N 11 (nI pl) (nI t) A' = some (nI t, A') := by
        unfold F_Play_firstWrong
        have := ev_fw1 (N := N) (p2 := nI t) (f := N1) (by omega) hGA' hp a11 n1 n2 n3 a12 (by omega) ne
        rw [← hN1] at this
        exact this
      have mx2 : F_Math_max N 0 ((nI n - nI t) + 1) A' = some (nI (n - t + 1), A') := by
        unfold F_Math_max
        rw [nI_dif (show t ≤ n by omega), nI_1, if_pos (show (0 : Int32) < nI (n - t + 1) from nI_lt (a := 0) (by omega) (by omega))]
      have e1 : nI t - 1 = nI (t - 1) := nI_dif (b := 1) (by omega)
      rw [bC_t ef, bC_t mx2, if_neg (show ¬ nI (n - t + 1) ≤ (0 : Int32) from nI_ge (a := 0) (by omega) (by omega)), rf_t (rP_11_0 hGA'), rf_t (rP_11_6 hGA'), ar_t (rA_11_6 hGA'), e1, nI_15 (by omega), rdP (show (t - 1) % 16 < 16 by omega) (by decide), rf_t (rP_18 hGA' (by omega)), ck_t (rA_11_0 hGA')] at eA
      obtain ⟨A2, B2, la2, z2, c2, g1, g2, g3, g4, g5, g6, g7, g8⟩ := acc_2b (N := N) h' hTl hag hQ hM hN hb hcn hp hct (show t ≤ n by omega) sA s3 a5 a6 s4 s5
      exact ⟨A2, B2, la2, z2, c2, n - t + 1, eA.trans g1, eI.trans g2, g3, g4, g5, g6, g7, g8⟩
end Par
