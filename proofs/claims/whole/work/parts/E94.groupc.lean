/-! ===== the call group ===== -/
section Par
variable {N p wo inp cs w u ir M K0 : Nat} {s pl : Int32} {ty mn nu cd : Nat → Int32} {E Q : Nat → Nat → Nat} {V : Nat → Nat → Int32} {nL lc : Nat} {lk : Nat → Nat} {hd : Nat → Int32}
theorem group_jo {q : Int32} {Nm : Nat → Nat → List Nat} {Pv : Nat → Nat → Int32} {A B : Hp} (hT : TXF A p B w cs M ty mn nu cd E Nm Pv) (hE : WE E) (hGA : Gr A) (hGB : Gr B) (hpr : A.P 0 4 = .ref p) (hwr : B.P 517 3 = .ref w) : ∃ r, F_W_group N 0 q A = some (r, A) ∧ F_M_group N 517 q B = some (r, B.sD 517 0 0) := by
  obtain ⟨⟨-, -, -, -, ⟨a7, a51⟩, -⟩, ⟨-, -, -, -, b29, -⟩, hp, hw, -, -, -, g27⟩ := hT
  have w17 : E 17 0 ≤ 16 := hE.2.2.2.2.2.2.2.2.2.2.2.1
  have hw' := lT_le hw
  have hP := gr_P hGA hp
  have hGB1 : Gr (B.sD 517 0 0) := hGB.sD
  have T := gr_T hGB1 w hw
  have hwr1 : (B.sD 517 0 0).P 517 3 = .ref w := hwr
  have d : ∀ a f, a ≠ 517 → (B.sD 517 0 0).D a f = B.D a f := fun a f y => rdw y
  have eB : F_M_group N 517 q B = (if (if q < 0 then (0 : Int32) else if nI (E 17 0) - 1 < q then 0 else 1) = 0 then some ((-1), B.sD 517 0 0) else ar (B.sD 517 0 0) 100 (w + 27) fun n16 => ck (inb q n16) <| bnd (((B.sD 517 0 0).D (w + 27) (q).toNatClampNeg)) fun x19 => some (x19, B.sD 517 0 0)) := by
    unfold F_M_group
    rw [ck_t (rS_517 hGB), bnd_t, rf_t hwr1, ck_t (TS T), bnd_t, d w 29 (by omega), b29, bC_t (ev_in (a := (0 : Int64)) (b := (nI (E 17 0) - 1).toInt64) (lo := 0) (hi := nI (E 17 0) - 1) rfl rfl), rf_t hwr1, ck_t (TS T), rf_t (TP_36 T)]
  by_cases q1 : q < 0
  · rw [if_pos q1, if_pos rfl] at eB
    refine ⟨-1, ?_, eB⟩
    unfold F_W_group
    rw [if_pos q1]
  · have m1 := nI_m1 (n := E 17 0) (by omega) q q1
    have eA : F_W_group N 0 q A = (if q < nI (E 17 0) then ar A 100 (p + 190) fun n13 => ck (inb q n13) <| bnd ((A.D (p + 190) (q).toNatClampNeg)) fun x16 => some (x16, A) else some ((-1), A)) := by
      unfold F_W_group
      rw [if_neg q1, ck_t (rS_0 hGA), rf_t hpr, ck_t (PrS hP), bnd_t, a7, rf_t hpr, ck_t (PrS hP), rf_t (PrP_14 hP)]
    by_cases q2 : q < nI (E 17 0)
    · obtain ⟨s, hs, rfl⟩ := nI_small (n := E 17 0) q1 (fun y => i32_nlt.mpr y q2) (by omega)
      rw [if_neg q1, if_neg (fun y => i32_nlt.mpr (m1.mp y) q2), if_neg (by decide), ar_t (TA_36 T), rdI (show s < 16 by omega) (by decide), d _ _ (by omega), g27 s hs] at eB
      rw [if_pos q2, ar_t (PrA_14 hP), rdI (show s < 16 by omega) (by decide), (a51 s hs).2.2.2.2.2.2] at eA
      exact ⟨_, eA, eB⟩
    · rw [if_neg q1, if_pos (m1.mpr (i32_nlt.mp q2)), if_pos rfl] at eB
      rw [if_neg q2] at eA
      exact ⟨_, eA, eB⟩
end Par
