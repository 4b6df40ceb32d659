/-! ===== workers ===== -/
/-- up and falling workers on both sides -/
def WKR (A B : Hp) (U F : Nat) : Prop := U < 256 ∧ F < 256 ∧ A.D 0 7 = nI U ∧ A.D 0 8 = nI F ∧ ∀ k, k < 8 → B.D 623 k = (if U / 2 ^ k % 2 = 1 then 1 else 0) ∧ B.D 624 k = (if F / 2 ^ k % 2 = 1 then 1 else 0)
def anN (U F : Nat) : Nat := U &&& (F ^^^ 4294967295)
theorem an_e {U F : Nat} (hU : U < 256) : nI U &&& (nI F ^^^ ((-1) : Int32)) = nI (anN U F) := by
  rw [nI_xm, nI_and _ _ (by omega)]
  rfl
theorem an_lt {U F : Nat} (hU : U < 256) : anN U F < 256 := Nat.lt_of_le_of_lt Nat.and_le_left hU
theorem m1_tb : ∀ k : Fin 32, Nat.testBit 4294967295 k.val = true := by decide
theorem an_b {U F k : Nat} (hk : k < 32) : anN U F / 2 ^ k % 2 = 1 ↔ (U / 2 ^ k % 2 = 1 ∧ ¬ F / 2 ^ k % 2 = 1) := by
  have e : Nat.testBit 4294967295 k = true := m1_tb ⟨k, hk⟩
  unfold anN
  rw [bit_d, bit_d, bit_d, Nat.testBit_and, Nat.testBit_xor, e]
  cases U.testBit k <;> cases F.testBit k <;> decide
theorem pc8 : ∀ x : Fin 256, (pcn 8 x.val = 0 ↔ x.val = 0) ∧ pcn 8 x.val ≤ 8 ∧ pcn 16 x.val = pcn 8 x.val := by decide +kernel
theorem pcn_st {k x : Nat} : pcn (k + 1) x = pcn k x + x / 2 ^ k % 2 := by
  rw [pcn_add k 1 x]
  rfl
section Par
variable {N p wo inp cs w u ir M K0 : Nat} {s pl : Int32} {ty mn nu cd : Nat → Int32} {E Q : Nat → Nat → Nat} {V : Nat → Nat → Int32} {nL lc : Nat} {lk : Nat → Nat} {hd : Nat → Int32}
theorem wk_lp {B : Hp} {U F x : Nat} {q : Int32} (hG : Gr B) (hx : ∀ k, k < 8 → (x / 2 ^ k % 2 = 1 ↔ (U / 2 ^ k % 2 = 1 ∧ (q = 0 → ¬ F / 2 ^ k % 2 = 1)))) (hB : ∀ k, k < 8 → B.D 623 k = (if U / 2 ^ k % 2 = 1 then 1 else 0) ∧ B.D 624 k = (if F / 2 ^ k % 2 = 1 then 1 else 0)) : ∀ j k n, k + j = 8 → j < n → B_M_workers_4 N 517 q n (nI (pcn k x)) (nI k) B = some (nI (pcn 8 x), B) := by
  intro j
  induction j with
  | zero =>
    intro k n hk hn
    obtain ⟨n, rfl⟩ : ∃ y, n = y + 1 := ⟨n - 1, by omega⟩
    rw [B_M_workers_4, if_pos (show (8 : Int32) ≤ nI k from nI_le (a := 8) (by omega) (by omega)), show k = 8 by omega]
  | succ j ih =>
    intro k n hk hn
    obtain ⟨n, rfl⟩ : ∃ y, n = y + 1 := ⟨n - 1, by omega⟩
    obtain ⟨h1, h2⟩ := hB k (by omega)
    have hx' := hx k (by omega)
    have e := ih (k + 1) n (by omega) (by omega)
    rw [pcn_st] at e
    rw [B_M_workers_4, if_neg (show ¬ (8 : Int32) ≤ nI k from nI_ge (b := 8) (by omega) (by decide)), ck_t (rS_517 hG), rf_t (rP_517_25 hG), ar_t (rA_517_25 hG), rdI (show k < 8 by omega) (by decide), h1]
    have z0 : ¬ x / 2 ^ k % 2 = 1 → (nI (pcn k x) + (0 : Int32)) = nI (pcn k x + x / 2 ^ k % 2) := fun y => by rw [show x / 2 ^ k % 2 = 0 by omega]; exact nI_ad _ 0
    have z1 : x / 2 ^ k % 2 = 1 → (nI (pcn k x) + (1 : Int32)) = nI (pcn k x + x / 2 ^ k % 2) := fun y => by rw [y]; exact nI_ad _ 1
    unfold B_M_workers_33 B_M_workers_37 B_M_workers_38
    by_cases y1 : U / 2 ^ k % 2 = 1
    · rw [if_pos y1, if_neg (show ¬ (1 : Int32) = 0 by decide)]
      by_cases y2 : q = 0
      · rw [if_pos y2, rf_t (rP_517_26 hG), ar_t (rA_517_26 hG), rdI (show k < 8 by omega) (by decide), h2]
        by_cases y3 : F / 2 ^ k % 2 = 1
        · rw [if_pos y3, if_neg (show ¬ (1 : Int32) = 0 by decide), z0 (fun z => (hx'.mp z).2 y2 y3), nI_1]
          exact e
        · rw [if_neg y3, if_pos rfl, z1 (hx'.mpr ⟨y1, fun _ => y3⟩), nI_1]
          exact e
      · rw [if_neg y2, z1 (hx'.mpr ⟨y1, fun z => absurd z y2⟩), nI_1]
        exact e
    · rw [if_neg y1, if_pos rfl, z0 (fun z => y1 (hx'.mp z).1), nI_1]
      exact e
/-- workers that are up and don't fall -/
theorem ev_wk0 {A B : Hp} {U F : Nat} (hG : Gr B) (h : WKR A B U F) (hN : 300 ≤ N) : F_M_workers N 517 0 B = some (nI (pcn 8 (anN U F)), B) := by
  unfold F_M_workers
  exact wk_lp (x := anN U F) hG (fun k hk => by rw [an_b (by omega)]; exact ⟨fun z => ⟨z.1, fun _ => z.2⟩, fun z => ⟨z.1, z.2 rfl⟩⟩) h.2.2.2.2 8 0 N (by omega) (by omega)
theorem ev_wk1 {A B : Hp} {U F : Nat} (hG : Gr B) (h : WKR A B U F) (hN : 300 ≤ N) : F_M_workers N 517 1 B = some (nI (pcn 8 U), B) := by
  unfold F_M_workers
  exact wk_lp (x := U) hG (fun k hk => ⟨fun z => ⟨z, fun y => absurd y (by decide)⟩, fun z => z.1⟩) h.2.2.2.2 8 0 N (by omega) (by omega)
/-- falling workers are gone -/
theorem st_wk {U F : Nat} : ∀ j k n B, k + j = 8 → j < n → Gr B → (∀ i, k ≤ i → i < 8 → B.D 623 i = (if U / 2 ^ i % 2 = 1 then 1 else 0) ∧ B.D 624 i = (if F / 2 ^ i % 2 = 1 then 1 else 0)) → ∃ B2, B_M_step_94 N 517 n (nI k) B = (ck (B2.sh[517]? = some (12, 0)) <| bC (F_M_confirms N 517 B2) fun _ H43 => rf (H43.P 517 9) fun a44 => ck (H43.sh[a44]? = some (13, 0)) <| bnd ((H43.D a44 0)) fun x47 => some (x47, H43)) ∧ same (fun a f => (a = 623 ∨ a = 624) ∧ k ≤ f) B B2 ∧ ∀ i, k ≤ i → i < 8 → B2.D 623 i = (if anN U F / 2 ^ i % 2 = 1 then 1 else 0) ∧ B2.D 624 i = 0 := by
  intro j
  induction j with
  | zero =>
    intro k n B hk hn hG hB
    obtain ⟨n, rfl⟩ : ∃ y, n = y + 1 := ⟨n - 1, by omega⟩
    refine ⟨B, ?_, same.rf, fun i y1 y2 => by omega⟩
    rw [B_M_step_94, if_pos (show (8 : Int32) ≤ nI k from nI_le (a := 8) (by omega) (by omega))]
  | succ j ih =>
    intro k n B hk hn hG hB
    obtain ⟨n, rfl⟩ : ∃ y, n = y + 1 := ⟨n - 1, by omega⟩
    obtain ⟨h1, h2⟩ := hB k (by omega) (by omega)
    have an := an_b (U := U) (F := F) (k := k) (by omega)
    have go : ∀ v : Int32, v = (if anN U F / 2 ^ k % 2 = 1 then 1 else 0) → ∃ B2, B_M_step_128 N 517 (fun l1 H => B_M_step_94 N 517 n l1 H) (nI k) 623 (nI k) v B = (ck (B2.sh[517]? = some (12, 0)) <| bC (F_M_confirms N 517 B2) fun _ H43 => rf (H43.P 517 9) fun a44 => ck (H43.sh[a44]? = some (13, 0)) <| bnd ((H43.D a44 0)) fun x47 => some (x47, H43)) ∧ same (fun a f => (a = 623 ∨ a = 624) ∧ k ≤ f) B B2 ∧ ∀ i, k ≤ i → i < 8 → B2.D 623 i = (if anN U F / 2 ^ i % 2 = 1 then 1 else 0) ∧ B2.D 624 i = 0 := fun v hv => by
      have nv : vp_nar .boolean v = v := by
        rw [hv]
        split <;> rfl
      have G1 : Gr (B.sD 623 k v) := hG.sD
      have G2 : Gr ((B.sD 623 k v).sD 624 k 0) := G1.sD
      have d : ∀ a f, ¬ (a = 623 ∧ f = k) → ¬ (a = 624 ∧ f = k) → ((B.sD 623 k v).sD 624 k 0).D a f = B.D a f := fun a f y1 y2 => by rw [rdnn y2, rdnn y1]
      have s1 : ((B.sD 623 k v).sD 624 k 0).D 623 k = v := by rw [rdw (by decide), rds]
      have s2 : ((B.sD 623 k v).sD 624 k 0).D 624 k = 0 := rds
      have sm : same (fun a f => (a = 623 ∨ a = 624) ∧ k ≤ f) B ((B.sD 623 k v).sD 624 k 0) := (same.rf.sD ⟨.inl rfl, Nat.le_refl _⟩).sD ⟨.inr rfl, Nat.le_refl _⟩
      have e0 : B_M_step_128 N 517 (fun l1 H => B_M_step_94 N 517 n l1 H) (nI k) 623 (nI k) v B = B_M_step_94 N 517 n (nI (k + 1)) ((B.sD 623 k v).sD 624 k 0) := by
        unfold B_M_step_128
        rw [ar_t (rA_517_25 hG), wrI (show k < 8 by omega) (by decide), nv, ck_t (rS_517 G1), rf_t (rP_517_26 G1), ar_t (rA_517_26 G1), wrI (show k < 8 by omega) (by decide), show vp_nar .boolean (0 : Int32) = (0 : Int32) from rfl, nI_1]
      generalize (B.sD 623 k v).sD 624 k 0 = B1 at *
      obtain ⟨B2, r1, r2, r3⟩ := ih (k + 1) n B1 (by omega) (by omega) G2 (fun i y1 y2 => by
        rw [d _ _ (by omega) (by omega), d _ _ (by omega) (by omega)]
        exact hB i (by omega) y2)
      refine ⟨B2, e0.trans r1, sm.tr (r2.mono fun a f y => ⟨y.1, by omega⟩), fun i y1 y2 => ?_⟩
      by_cases y : i = k
      · rw [y, r2.1 623 k (by omega), r2.1 624 k (by omega), s1, s2]
        exact ⟨hv, rfl⟩
      · exact r3 i (by omega) y2
    rw [B_M_step_94, if_neg (show ¬ (8 : Int32) ≤ nI k from nI_ge (b := 8) (by omega) (by decide)), ck_t (rS_517 hG), rf_t (rP_517_25 hG), rf_t (rP_517_25 hG), ar_t (rA_517_25 hG), rdI (show k < 8 by omega) (by decide), h1]
    unfold B_M_step_127
    by_cases y1 : U / 2 ^ k % 2 = 1
    · rw [if_pos y1, if_neg (show ¬ (1 : Int32) = 0 by decide), rf_t (rP_517_26 hG), ar_t (rA_517_26 hG), rdI (show k < 8 by omega) (by decide), h2]
      by_cases y3 : F / 2 ^ k % 2 = 1
      · rw [if_pos y3, if_neg (show ¬ (1 : Int32) = 0 by decide)]
        exact go 0 (by rw [if_neg (fun z => (an.mp z).2 y3)])
      · rw [if_neg y3, if_pos rfl]
        exact go 1 (by rw [if_pos (an.mpr ⟨y1, y3⟩)])
    · rw [if_neg y1, if_pos rfl]
      exact go 0 (by rw [if_neg (fun z => y1 (an.mp z).1)])
/-- the call fall -/
theorem fall_jo {A B : Hp} {U F : Nat} {q : Int32} (hGA : Gr A) (hGB : Gr B) (h : WKR A B U F) : ∃ r A2 B2 F2, F_W_fall N 0 q A = some (r, A2) ∧ F_M_fall N 517 q B = some (r, B2) ∧ WKR A2 B2 U F2 ∧ same (fun a f => a = 0 ∧ f = 8) A A2 ∧ same (fun a f => (a = 517 ∧ f = 0) ∨ a = 624) B B2 := by
  obtain ⟨u1, u2, u3, u4, u5⟩ := h
  have G1 : Gr (B.sD 517 0 0) := hGB.sD
  have d : ∀ a f, a ≠ 517 → (B.sD 517 0 0).D a f = B.D a f := fun a f y => rdw y
  have s0 : same (fun a f => (a = 517 ∧ f = 0) ∨ a = 624) B (B.sD 517 0 0) := same.rf.sD (.inl ⟨rfl, rfl⟩)
  have eB : F_M_fall N 517 q B = bC (F_M_in N (q.toInt64) (0 : Int64) (7 : Int64) (B.sD 517 0 0)) fun v4 H5 => if v4 = (0 : Int32) then some (0, H5) else rf (H5.P 517 25) fun a7 => ar H5 102 a7 fun n9 => ck (inb q n9) <| bnd ((H5.D a7 (q).toNatClampNeg)) fun x12 => if x12 = (0 : Int32) then some (0, H5) else rf (H5.P 517 26) fun a14 => ar H5 102 a14 fun n16 => ck (inb q n16) <| bnd ((H5.D a14 (q).toNatClampNeg)) fun x19 => if x19 = (0 : Int32) then rf (H5.P 517 26) fun a21 => ar H5 102 a21 fun n23 => ck (inb q n23) <| bnd (H5.sD a21 (q).toNatClampNeg (vp_nar .boolean (1 : Int32))) fun H26 => some (1, H26) else some (0, H5) := by
    unfold F_M_fall
    rw [ck_t (rS_517 hGB), bnd_t]
  rw [bC_t (ev_in (a := (0 : Int64)) (b := (7 : Int64)) (lo := 0) (hi := 7) rfl rfl)] at eB
  have w0 : WKR A (B.sD 517 0 0) U F := ⟨u1, u2, u3, u4, fun k hk => by rw [d _ _ (by decide), d _ _ (by decide)]; exact u5 k hk⟩
  by_cases q1 : q < 0
  · rw [if_pos q1, if_pos rfl] at eB
    refine ⟨0, A, B.sD 517 0 0, F, ?_, eB, w0, same.rf, s0⟩
    unfold F_W_fall F_W_isWorker
    rw [ck_t (rS_0 hGA), if_pos q1, bC_v, if_pos rfl]
  by_cases q2 : q < 8
  · obtain ⟨k, hk, rfl⟩ := nI_small (n := 8) q1 (fun y => i32_nlt.mpr y q2) (by decide)
    obtain ⟨h1, h2⟩ := u5 k hk
    have eA : F_W_fall N 0 (nI k) A = (if ((nI U >>> (nI k &&& 31)) &&& (1 : Int32)) = (0 : Int32) then some (0, A) else if ((nI F >>> (nI k &&& 31)) &&& (1 : Int32)) = (1 : Int32) then some (0, A) else some (1, A.sD 0 8 (nI F ||| ((1 : Int32) <<< (nI k &&& 31))))) := by
      unfold F_W_fall F_W_isWorker
      rw [ck_t (rS_0 hGA), if_neg q1, if_neg (show ¬ (8 : Int32) ≤ nI k from nI_ge (b := 8) (by omega) (by decide)), bC_v, if_neg (show ¬ (1 : Int32) = 0 by decide), bnd_t, bnd_t, bnd_t, bnd_t, u3, u4]
    rw [if_neg q1, if_neg (show ¬ (7 : Int32) < nI k from nI_nlt (a := 7) (by omega) (by omega)), if_neg (show ¬ (1 : Int32) = 0 by decide), rf_t (rP_517_25 G1), ar_t (rA_517_25 G1), rdI hk (by decide), d _ _ (by decide), h1, rf_t (rP_517_26 G1), ar_t (rA_517_26 G1), rdI hk (by decide), d _ _ (by decide), h2, rf_t (rP_517_26 G1), ar_t (rA_517_26 G1), wrI hk (by decide), show vp_nar .boolean (1 : Int32) = (1 : Int32) from rfl] at eB
    by_cases y1 : U / 2 ^ k % 2 = 1
    · rw [if_pos y1, if_neg (show ¬ (1 : Int32) = 0 by decide)] at eB
      rw [if_neg (fun z => (nI_bit0 (by omega) (by omega)).mp z y1)] at eA
      by_cases y2 : F / 2 ^ k % 2 = 1
      · rw [if_pos y2, if_neg (show ¬ (1 : Int32) = 0 by decide)] at eB
        rw [if_pos ((nI_bit1 (by omega) (by omega)).mpr y2)] at eA
        exact ⟨0, A, _, F, eA, eB, w0, same.rf, s0⟩
      · rw [if_neg y2, if_pos rfl] at eB
        rw [if_neg (fun z => y2 ((nI_bit1 (by omega) (by omega)).mp z)), nI_shl (by omega), nI_or] at eA
        refine ⟨1, _, _, F ||| 2 ^ k, eA, eB, ⟨u1, ?_, by rw [rdf (by decide)]; exact u3, rds, fun i hi => ?_⟩, same.rf.sD ⟨rfl, rfl⟩, s0.sD (.inr rfl)⟩
        · exact Nat.or_lt_two_pow (n := 8) u2 (Nat.pow_lt_pow_right (by decide) hk)
        · rw [rdw (by decide), d _ _ (by decide)]
          refine ⟨(u5 i hi).1, ?_⟩
          by_cases y : i = k
          · rw [y, rds, if_pos]
            rw [bit_d, Nat.testBit_or, Nat.testBit_two_pow_self, Bool.or_true]
          · rw [rdf y, d _ _ (by decide), (u5 i hi).2]
            have : (F ||| 2 ^ k) / 2 ^ i % 2 = 1 ↔ F / 2 ^ i % 2 = 1 := by
              rw [bit_d, bit_d, Nat.testBit_or, Nat.testBit_two_pow, decide_eq_false (fun z => y z.symm), Bool.or_false]
            by_cases z : F / 2 ^ i % 2 = 1
            · rw [if_pos z, if_pos (this.mpr z)]
            · rw [if_neg z, if_neg (fun k => z (this.mp k))]
    · rw [if_neg y1, if_pos rfl] at eB
      rw [if_pos ((nI_bit0 (by omega) (by omega)).mpr y1)] at eA
      exact ⟨0, A, _, F, eA, eB, w0, same.rf, s0⟩
  · have p3 : (7 : Int32) < q := Decidable.byContradiction fun y => q2 ((i32_le (c := 7) (by decide)).mp (i32_nlt.mp y))
    rw [if_neg q1, if_pos p3, if_pos rfl] at eB
    refine ⟨0, A, B.sD 517 0 0, F, ?_, eB, w0, same.rf, s0⟩
    unfold F_W_fall F_W_isWorker
    rw [ck_t (rS_0 hGA), if_neg q1, if_pos (show (8 : Int32) ≤ q from i32_nlt.mp q2), bC_v, if_pos rfl]
/-- the call stand -/
theorem stand_jo {A B : Hp} {U F : Nat} {q : Int32} (hGA : Gr A) (hGB : Gr B) (h : WKR A B U F) : ∃ r A2 B2 U2 F2, F_W_stand N 0 q A = some (r, A2) ∧ F_M_stand N 517 q B = some (r, B2) ∧ WKR A2 B2 U2 F2 ∧ same (fun a f => a = 0 ∧ (f = 7 ∨ f = 8)) A A2 ∧ same (fun a f => (a = 517 ∧ f = 0) ∨ a = 623 ∨ a = 624) B B2 := by
  obtain ⟨u1, u2, u3, u4, u5⟩ := h
  have G1 : Gr (B.sD 517 0 0) := hGB.sD
  have d : ∀ a f, a ≠ 517 → (B.sD 517 0 0).D a f = B.D a f := fun a f y => rdw y
  have s0 : same (fun a f => (a = 517 ∧ f = 0) ∨ a = 623 ∨ a = 624) B (B.sD 517 0 0) := same.rf.sD (.inl ⟨rfl, rfl⟩)
  have w0 : WKR A (B.sD 517 0 0) U F := ⟨u1, u2, u3, u4, fun k hk => by rw [d _ _ (by decide), d _ _ (by decide)]; exact u5 k hk⟩
  have eB : F_M_stand N 517 q B = bC (F_M_in N (q.toInt64) (0 : Int64) (7 : Int64) (B.sD 517 0 0)) fun v4 H5 => if v4 = (0 : Int32) then some (0, H5) else rf (H5.P 517 25) fun a7 => ar H5 102 a7 fun n9 => ck (inb q n9) <| bnd ((H5.D a7 (q).toNatClampNeg)) fun x12 => if x12 = (0 : Int32) then B_M_stand_37 N 517 q H5 else rf (H5.P 517 26) fun a40 => ar H5 102 a40 fun n42 => ck (inb q n42) <| bnd ((H5.D a40 (q).toNatClampNeg)) fun x45 => if x45 = (0 : Int32) then some (0, H5) else B_M_stand_37 N 517 q H5 := by
    unfold F_M_stand
    rw [ck_t (rS_517 hGB), bnd_t]
  rw [bC_t (ev_in (a := (0 : Int64)) (b := (7 : Int64)) (lo := 0) (hi := 7) rfl rfl)] at eB
  by_cases q1 : q < 0
  · rw [if_pos q1, if_pos rfl] at eB
    refine ⟨0, A, B.sD 517 0 0, U, F, ?_, eB, w0, same.rf, s0⟩
    unfold F_W_stand F_W_isWorker
    rw [ck_t (rS_0 hGA), if_pos q1, bC_v, if_pos rfl]
  by_cases q2 : q < 8
  · obtain ⟨k, hk, rfl⟩ := nI_small (n := 8) q1 (fun y => i32_nlt.mpr y q2) (by decide)
    obtain ⟨h1, h2⟩ := u5 k hk
    have an := an_b (U := U) (F := F) (k := k) (by omega)
    have eA : F_W_stand N 0 (nI k) A = (if ((nI (anN U F) >>> (nI k &&& 31)) &&& (1 : Int32)) = (1 : Int32) then some (0, A) else some (1, (A.sD 0 7 (nI (U ||| 2 ^ k))).sD 0 8 (nI (anN F (2 ^ k))))) := by
      unfold F_W_stand F_W_isWorker
      rw [ck_t (rS_0 hGA), if_neg q1, if_neg (show ¬ (8 : Int32) ≤ nI k from nI_ge (b := 8) (by omega) (by decide)), bC_v, if_neg (show ¬ (1 : Int32) = 0 by decide), bnd_t, bnd_t, u3, u4, an_e u1, bnd_t, bnd_t, nI_shl (by omega), nI_or, bnd_t, bnd_t, rdf (by decide), u4, an_e u2, bnd_t]
    have e37 : B_M_stand_37 N 517 (nI k) (B.sD 517 0 0) = some (1, ((B.sD 517 0 0).sD 623 k 1).sD 624 k 0) := by
      have G2 : Gr ((B.sD 517 0 0).sD 623 k 1) := G1.sD
      unfold B_M_stand_37
      rw [ck_t (rS_517 G1), rf_t (rP_517_25 G1), ar_t (rA_517_25 G1), wrI hk (by decide), show vp_nar .boolean (1 : Int32) = (1 : Int32) from rfl, rf_t (rP_517_26 G2), ar_t (rA_517_26 G2), wrI hk (by decide), show vp_nar .boolean (0 : Int32) = (0 : Int32) from rfl]
    rw [if_neg q1, if_neg (show ¬ (7 : Int32) < nI k from nI_nlt (a := 7) (by omega) (by omega)), if_neg (show ¬ (1 : Int32) = 0 by decide), rf_t (rP_517_25 G1), ar_t (rA_517_25 G1), rdI hk (by decide), d _ _ (by decide), h1, rf_t (rP_517_26 G1), ar_t (rA_517_26 G1), rdI hk (by decide), d _ _ (by decide), h2, e37] at eB
    have wn : WKR ((A.sD 0 7 (nI (U ||| 2 ^ k))).sD 0 8 (nI (anN F (2 ^ k)))) (((B.sD 517 0 0).sD 623 k 1).sD 624 k 0) (U ||| 2 ^ k) (anN F (2 ^ k)) := by
      refine ⟨Nat.or_lt_two_pow (n := 8) u1 (Nat.pow_lt_pow_right (by decide) hk), an_lt u2, by rw [rdf (by decide), rds], rds, fun i hi => ?_⟩
      obtain ⟨i1, i2⟩ := u5 i hi
      rw [rdw (show 623 ≠ 624 by decide)]
      by_cases y : i = k
      · rw [y, rds, rds, if_pos (by rw [bit_d, Nat.testBit_or, Nat.testBit_two_pow_self, Bool.or_true]), if_neg (fun z => ((an_b (by omega)).mp z).2 (by rw [bit_d, Nat.testBit_two_pow_self]))]
        exact ⟨rfl, rfl⟩
      · rw [rdf y, rdf y, rdw (show 624 ≠ 623 by decide), d _ _ (by decide), d _ _ (by decide), i1, i2]
        have z1 : (U ||| 2 ^ k) / 2 ^ i % 2 = 1 ↔ U / 2 ^ i % 2 = 1 := by
          rw [bit_d, bit_d, Nat.testBit_or, Nat.testBit_two_pow, decide_eq_false (fun z => y z.symm), Bool.or_false]
        have z2 : anN F (2 ^ k) / 2 ^ i % 2 = 1 ↔ F / 2 ^ i % 2 = 1 := by
          rw [an_b (by omega), bit_d (a := 2 ^ k), Nat.testBit_two_pow, decide_eq_false (fun z => y z.symm)]
          exact ⟨fun z => z.1, fun z => ⟨z, by decide⟩⟩
        refine ⟨?_, ?_⟩
        · by_cases z : U / 2 ^ i % 2 = 1
          · rw [if_pos z, if_pos (z1.mpr z)]
          · rw [if_neg z, if_neg (fun k => z (z1.mp k))]
        · by_cases z : F / 2 ^ i % 2 = 1
          · rw [if_pos z, if_pos (z2.mpr z)]
          · rw [if_neg z, if_neg (fun k => z (z2.mp k))]
    have sA : same (fun a f => a = 0 ∧ (f = 7 ∨ f = 8)) A ((A.sD 0 7 (nI (U ||| 2 ^ k))).sD 0 8 (nI (anN F (2 ^ k)))) := (same.rf.sD ⟨rfl, .inl rfl⟩).sD ⟨rfl, .inr rfl⟩
    have sB : same (fun a f => (a = 517 ∧ f = 0) ∨ a = 623 ∨ a = 624) B (((B.sD 517 0 0).sD 623 k 1).sD 624 k 0) := (s0.sD (.inr (.inl rfl))).sD (.inr (.inr rfl))
    have al := an_lt (F := F) u1
    by_cases y1 : U / 2 ^ k % 2 = 1
    · rw [if_pos y1, if_neg (show ¬ (1 : Int32) = 0 by decide)] at eB
      by_cases y2 : F / 2 ^ k % 2 = 1
      · rw [if_pos y2, if_neg (show ¬ (1 : Int32) = 0 by decide)] at eB
        rw [if_neg (fun z => (an.mp ((nI_bit1 (by omega) (by omega)).mp z)).2 y2)] at eA
        exact ⟨1, _, _, _, _, eA, eB, wn, sA, sB⟩
      · rw [if_neg y2, if_pos rfl] at eB
        rw [if_pos ((nI_bit1 (by omega) (by omega)).mpr (an.mpr ⟨y1, y2⟩))] at eA
        exact ⟨0, A, _, _, _, eA, eB, w0, same.rf, s0⟩
    · rw [if_neg y1, if_pos rfl] at eB
      rw [if_neg (fun z => y1 (an.mp ((nI_bit1 (by omega) (by omega)).mp z)).1)] at eA
      exact ⟨1, _, _, _, _, eA, eB, wn, sA, sB⟩
  · have p3 : (7 : Int32) < q := Decidable.byContradiction fun y => q2 ((i32_le (c := 7) (by decide)).mp (i32_nlt.mp y))
    rw [if_neg q1, if_pos p3, if_pos rfl] at eB
    refine ⟨0, A, B.sD 517 0 0, U, F, ?_, eB, w0, same.rf, s0⟩
    unfold F_W_stand F_W_isWorker
    rw [ck_t (rS_0 hGA), if_neg q1, if_pos (show (8 : Int32) ≤ q from i32_nlt.mp q2), bC_v, if_pos rfl]
end Par
