/-! ===== the call input, with its refusals ===== -/
theorem i64_ad {a : Nat} {k : Int32} {j : Nat} (hk : k = nI j) (h : a + j < 2 ^ 31) : (nI a).toInt64 + k.toInt64 = (nI (a + j)).toInt64 := by
  subst hk
  apply Int64.toInt_inj.mp
  rw [Int64.toInt_add, t64, t64, t64, nI_int (show a < 2 ^ 31 by omega), nI_int (show j < 2 ^ 31 by omega), nI_int h, Int.bmod_eq_of_le (by omega) (by omega)]
  omega
theorem i32_le {v : Int32} {c : Nat} (h : c + 1 < 2 ^ 31) : v ≤ nI c ↔ v < nI (c + 1) := by
  rw [Int32.le_iff_toInt_le, Int32.lt_iff_toInt_lt, nI_int (show c < 2 ^ 31 by omega), nI_int h]
  omega
theorem i32_nlt {v w : Int32} : ¬ v < w ↔ w ≤ v := by
  rw [Int32.le_iff_toInt_le, Int32.lt_iff_toInt_lt]
  omega
section Par
variable {N p wo inp cs w u ir M K0 : Nat} {s pl : Int32} {ty mn nu cd : Nat → Int32} {E Q : Nat → Nat → Nat} {V : Nat → Nat → Int32} {nL lc : Nat} {lk : Nat → Nat} {hd : Nat → Int32}
theorem input_jo {S : Nat → Nat} {kT : Nat} {nb b t0 la z us un c n : Nat} {P T v : Int32} {Nm : Nat → Nat → List Nat} {Pv : Nat → Nat → Int32} {A B : Hp} (h : PLI N p cs w M ty mn nu cd E Nm Pv S b t0 A la z B us un c n) (hTl : TLD kT A B) (hag : A.D 11 3 = B.D 517 13) (hon : A.D 11 2 = B.D 517 12) (hpr : A.P 0 4 = .ref p) (hQ : TXQ M cs ty mn nu cd E Pv) (hM : M + 2 ≤ N) (hN : 2000000 ≤ N) (hb : BNS S nb) (hcn : nb + (b + 16 * (n - t0)) + 20 < 8388608) : ∃ r A2 B2 la2 z2 c2, F_W_input N 0 P T v A = some (r, A2) ∧ F_M_input N 517 P T v B = some (r, B2) ∧ PLI N p cs w M ty mn nu cd E Nm Pv S b t0 A2 la2 z2 B2 us un c2 n ∧ TLD (kT + 32 * (c2 - c)) A2 B2 ∧ A2.D 11 3 = B2.D 517 13 ∧ exT IPA A la z A2 la2 z2 ∧ smT (fun a f => IPB us un a f ∨ (a = 517 ∧ f = 0)) B B2 ∧ c ≤ c2 := by
  have s0 : same PFB B (B.sD 517 0 0) := same.rf.sD (.inl rfl)
  have h0 : PLI N p cs w M ty mn nu cd E Nm Pv S b t0 A la z (B.sD 517 0 0) us un c n := h.fr hQ.1 same.rf s0
  have d0 : ∀ a f, ¬ (a = 517 ∧ f = 0) → (B.sD 517 0 0).D a f = B.D a f := fun a f y => rdnn y
  have hTl0 : TLD kT A (B.sD 517 0 0) := hTl.fr (fun _ _ _ => rfl) (fun a f y => d0 _ _ (by omega))
  have hag0 : A.D 11 3 = (B.sD 517 0 0).D 517 13 := by rw [d0 _ _ (by omega)]; exact hag
  have hon0 : A.D 11 2 = (B.sD 517 0 0).D 517 12 := by rw [d0 _ _ (by omega)]; exact hon
  have sm0 : smT (fun a f => IPB us un a f ∨ (a = 517 ∧ f = 0)) B (B.sD 517 0 0) := ((same.rf (S := fun a f => IPB us un a f ∨ (a = 517 ∧ f = 0)) (H := B)).sD (.inr ⟨rfl, rfl⟩)).smT
  have eB0 : F_M_input N 517 P T v B = (bC (F_M_in N (P.toInt64) (0 : Int64) (3 : Int64) (B.sD 517 0 0)) fun v4 H5 => if v4 = (0 : Int32) then some ((-1), H5) else rf (H5.P 517 8) fun a7 => ck (H5.sh[a7]? = some (13, 0)) <| bnd ((H5.D a7 0)) fun x10 => rf (H5.P 517 9) fun a11 => ck (H5.sh[a11]? = some (13, 0)) <| bnd ((H5.D a11 0)) fun x14 => bC (F_M_in N (T.toInt64) ((x10.toInt64) + (1 : Int64)) ((x14.toInt64) + (16 : Int64)) H5) fun v16 H17 => if v16 = (0 : Int32) then some ((-2), H17) else rf (H17.P 517 9) fun a19 => ck (H17.sh[a19]? = some (13, 0)) <| bnd ((H17.D a19 0)) fun x22 => if T ≤ x22 then rf (H17.P 517 16) fun a24 => ar H17 100 a24 fun n26 => ck (inb (T &&& (63 : Int32)) n26) <| bnd ((H17.D a24 ((T &&& (63 : Int32))).toNatClampNeg)) fun x29 => B_M_input_79 N 517 P T v x29 H17 else bnd ((H17.D 517 12)) fun x150 => B_M_input_79 N 517 P T v x150 H17) := by
    unfold F_M_input
    rw [ck_t (rS_517 h.1.2.1), bnd_t]
  generalize B.sD 517 0 0 = B0 at *
  have h' := h0
  obtain ⟨⟨hGA, hGB, hTx, hL⟩, ⟨hus, hun, hne, b8, b9, b3⟩, ⟨n0, n1, n2, n3, n4, n5, n6⟩, ⟨Qn, x1, x2, x3⟩, ⟨Qs, y1, y2, y3⟩, hLk, hRw, hCm⟩ := h0
  have bn : B0.D un 0 = nI n := by rw [← x1.2.1]; exact n6
  have eA : F_W_input N 0 P T v A = (bC (F_Play_refusal N 11 P T A) fun v6 H7 => if v6 = (0 : Int32) then rf (H7.P 0 2) fun a9 => rf (H7.P 0 4) fun a11 => ck (H7.sh[a9]? = some (10, 0)) <| bC (F_Play_accept N a9 a11 P T v H7) fun v15 H16 => some (v15, H16) else some (v6, H7)) := by
    unfold F_W_input
    rw [ck_t (rS_0 hGA), rf_t (rP_0_2 hGA), ck_t (rS_11 hGA)]
  have no : ∀ r : Int32, ¬ r = 0 → F_Play_refusal N 11 P T A = some (r, A) → F_M_input N 517 P T v B = some (r, B0) → ∃ r A2 B2 la2 z2 c2, F_W_input N 0 P T v A = some (r, A2) ∧ F_M_input N 517 P T v B = some (r, B2) ∧ PLI N p cs w M ty mn nu cd E Nm Pv S b t0 A2 la2 z2 B2 us un c2 n ∧ TLD (kT + 32 * (c2 - c)) A2 B2 ∧ A2.D 11 3 = B2.D 517 13 ∧ exT IPA A la z A2 la2 z2 ∧ smT (fun a f => IPB us un a f ∨ (a = 517 ∧ f = 0)) B B2 ∧ c ≤ c2 := fun r k1 k2 k3 => by
    rw [bC_t k2, if_neg k1] at eA
    exact ⟨r, A, B0, la, z, c, eA, k3, h', hTl0.mono (by omega), hag0, (exS.rf hL).exT, sm0, Nat.le_refl _⟩
  by_cases p1 : P < 0
  · refine no (-1) (by decide) ?_ ?_
    · unfold F_Play_refusal
      rw [if_pos p1]
    · rw [eB0, bC_t (ev_in (a := (0 : Int64)) (b := (3 : Int64)) (lo := 0) (hi := 3) rfl rfl), if_pos p1, if_pos rfl]
  by_cases p2 : P < 4
  · obtain ⟨pl, hp, rfl⟩ := nI_small (n := 4) p1 (fun y => i32_nlt.mpr y p2) (by decide)
    have p3 : ¬ (3 : Int32) < nI pl := nI_nlt (a := 3) (by omega) (by omega)
    rw [bC_t (ev_in (a := (0 : Int64)) (b := (3 : Int64)) (lo := 0) (hi := 3) rfl rfl), if_neg p1, if_neg p3, if_neg (by decide), rf_t b8, ck_t (US (gr_U hGB us hus)), bnd_t, n5, rf_t b9, ck_t (US (gr_U hGB un hun)), bnd_t, bn, bC_t (ev_in (a := (nI c).toInt64 + (1 : Int64)) (b := (nI n).toInt64 + (16 : Int64)) (lo := nI (c + 1)) (hi := nI (n + 16)) (i64_ad (k := 1) (j := 1) rfl (by omega)) (i64_ad (k := 16) (j := 16) rfl (by omega)))] at eB0
    have eR : F_Play_refusal N 11 (nI pl) T A = (if T ≤ nI c then some ((-2), A) else if T ≤ nI (n + 16) then (if T ≤ nI n then rf (A.P 11 11) fun a16 => ar A 100 a16 fun n18 => ck (inb (T &&& (15 : Int32)) n18) <| bnd ((A.D a16 ((T &&& (15 : Int32))).toNatClampNeg)) fun x21 => B_Play_refusal_63 N 11 (nI pl) T x21 A else bnd ((A.D 11 2)) fun x46 => B_Play_refusal_63 N 11 (nI pl) T x46 A) else some ((-2), A)) := by
      unfold F_Play_refusal
      rw [if_neg p1, if_pos p2, ck_t (rS_11 hGA), bnd_t, n4, rf_t (rP_11_0 hGA), ck_t (rA_11_0 hGA), bnd_t, n6, show nI n + (16 : Int32) = nI (n + 16) from nI_ad n 16, rf_t (rP_11_0 hGA), ck_t (rA_11_0 hGA), bnd_t, n6]
    by_cases q1 : T ≤ nI c
    · refine no (-2) (by decide) (by rw [eR, if_pos q1]) ?_
      rw [eB0, if_pos ((i32_le (by omega)).mp q1), if_pos rfl]
    by_cases q2 : T ≤ nI (n + 16)
    · have q0 : ¬ T < 0 := fun y => q1 (by
        rw [Int32.lt_iff_toInt_lt] at y
        rw [Int32.le_iff_toInt_le, nI_int (show c < 2 ^ 31 by omega)]
        have : (0 : Int32).toInt = 0 := rfl
        omega)
      obtain ⟨t, ht, rfl⟩ := nI_small (n := n + 17) q0 (fun y => (i32_nlt.mpr y) ((i32_le (c := n + 16) (by omega)).mp q2)) (by omega)
      have hct : c < t := Decidable.byContradiction fun y => q1 (nI_le (by omega) (by omega))
      have t31 : t < 2 ^ 31 := by omega
      have s256 : 64 * pl + t % 64 < 256 := by omega
      rw [if_neg (fun y => q1 ((i32_le (by omega)).mpr y)), if_neg (i32_nlt.mpr q2), if_neg (by decide), rf_t b9, ck_t (US (gr_U hGB un hun)), bnd_t, bn, nI_63 t31] at eB0
      rw [if_neg q1, if_pos q2, nI_15 t31] at eR
      -- who sits
      obtain ⟨sv, e1, e2, e3⟩ : ∃ sv : Int32, F_Play_refusal N 11 (nI pl) (nI t) A = B_Play_refusal_63 N 11 (nI pl) (nI t) sv A ∧ F_M_input N 517 (nI pl) (nI t) v B = B_M_input_79 N 517 (nI pl) (nI t) v sv B0 ∧ (t ≤ n → sv = A.D 128 (t % 16)) := by
        by_cases y : t ≤ n
        · refine ⟨A.D 128 (t % 16), ?_, ?_, fun _ => rfl⟩
          · rw [eR, if_pos (show nI t ≤ nI n from nI_le y (by omega)), rf_t (rP_11_11 hGA), ar_t (rA_11_11 hGA), rdI (show t % 16 < 16 by omega) (by decide)]
          · rw [eB0, if_pos (show nI t ≤ nI n from nI_le y (by omega)), rf_t (rP_517_16 hGB), ar_t (rA_517_16 hGB), rdI (show t % 64 < 64 by omega) (by decide), (hRw t hct y).2]
        · refine ⟨A.D 11 2, ?_, ?_, fun k => absurd k y⟩
          · rw [eR, if_neg (show ¬ nI t ≤ nI n from nI_ge (by omega) (by omega)), bnd_t]
          · rw [eB0, if_neg (show ¬ nI t ≤ nI n from nI_ge (by omega) (by omega)), bnd_t, ← hon0]
      unfold B_Play_refusal_63 F_Play_slot at e1
      unfold B_M_input_79 F_M_slot at e2
      by_cases w1 : ((sv >>> (nI pl &&& 31)) &&& (1 : Int32)) = 0
      · rw [if_pos w1] at e1 e2
        exact no (-3) (by decide) e1 e2
      · rw [if_neg w1, ck_t (rS_11 hGA), rf_t (rP_11_8 hGA), slA t31, bC_v, ar_t (rA_11_8 hGA), rdI s256 (by decide)] at e1
        rw [if_neg w1, ck_t (rS_517 hGB), rf_t (rP_517_15 hGB), slB t31, bC_v, ar_t (rA_517_15 hGB), rdI s256 (by decide), ← (hCm.1 _ s256).1] at e2
        by_cases w2 : A.D 125 (64 * pl + t % 64) = 0
        · rw [if_pos w2] at e1 e2
          obtain ⟨A2, B2, la2, z2, c2, k, g1, g2, g3, g4, g5, g6, g7, g8⟩ := acc_jo (N := N) (v := v) h' hTl0 hag0 hQ hM hN hb hcn hp hct (by omega) (fun y => by rw [← e3 y]; exact w1)
          rw [bC_t e1, if_pos rfl, rf_t (rP_0_2 hGA), rf_t hpr, ck_t (rS_11 hGA), bC_t g1] at eA
          refine ⟨nI k, A2, B2, la2, z2, c2, eA, ?_, g3, g4, g5, g6, sm0.tr (g7.mono fun a f y => .inl y), g8⟩
          rw [e2, rf_t b9, ck_t (US (gr_U hGB un hun)), bnd_t, bn]
          unfold inB at g2
          by_cases y : n < t
          · rw [if_pos y] at g2
            rw [if_pos (nI_lt y t31)]
            exact g2
          · rw [if_neg y] at g2
            rw [if_neg (nI_nlt (by omega) (by omega))]
            obtain ⟨B1, k1, k2, k3⟩ := ev_bitsOf (N := N) (u := us) (c := c) (t := t) (by omega) hus (by omega) t31 (by omega) 4 N 0 B0 (by omega) (by omega) hGB b8 n5
            have hu2 := lU_le hun
            have hq : F_M_bitsOf N 517 (nI t) B0 = some ((), B1) := k1
            have hGB1 : Gr B1 := k2.gr hGB
            rw [bC_t hq] at g2 ⊢
            rw [rf_t (rP_517_18 hGB1), ar_t (rA_517_18 hGB1), rdI hp (by decide), rf_t (show B1.P 517 9 = .ref un by rw [k2.2.1]; exact b9), ck_t (US (gr_U hGB1 un hun)), bnd_t, k2.1 un 0 (by omega), bn]
            unfold B_M_input_154
            exact g2
        · rw [if_neg w2] at e1 e2
          exact no (-4) (by decide) e1 e2
    · refine no (-2) (by decide) (by rw [eR, if_neg q1, if_neg q2]) ?_
      rw [eB0, if_neg (fun y => q1 ((i32_le (by omega)).mpr y)), if_pos (Decidable.byContradiction fun y => q2 (i32_nlt.mp y)), if_pos rfl]
  · refine no (-1) (by decide) ?_ ?_
    · unfold F_Play_refusal
      rw [if_neg p1, if_neg p2]
    · rw [eB0, bC_t (ev_in (a := (0 : Int64)) (b := (3 : Int64)) (lo := 0) (hi := 3) rfl rfl), if_neg p1, if_pos (show (3 : Int32) < P from Decidable.byContradiction fun y => p2 ((i32_le (c := 3) (by decide)).mp (i32_nlt.mp y))), if_pos rfl]
end Par
