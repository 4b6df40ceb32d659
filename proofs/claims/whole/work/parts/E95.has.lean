/-! ===== the call has ===== -/
section Par
variable {N p wo inp cs w u ir M K0 : Nat} {s pl : Int32} {ty mn nu cd : Nat → Int32} {E Q : Nat → Nat → Nat} {V : Nat → Nat → Int32} {nL lc : Nat} {lk : Nat → Nat} {hd : Nat → Int32}
theorem has_jo {e q : Int32} {Nm : Nat → Nat → List Nat} {Pv : Nat → Nat → Int32} {A B : Hp} {un : Nat} (hT : TXF A p B w cs M ty mn nu cd E Nm Pv) (hE : WE E) (hGA : Gr A) (hGB : Gr B) (hpr : A.P 0 4 = .ref p) (hwr : B.P 517 3 = .ref w) (hun : un ∈ lU) (b9 : B.P 517 9 = .ref un) (hW : WPR A 12 B un E Q) : ∃ r, F_W_has N 0 e q A = some (r, A) ∧ F_M_has N 517 e q B = some (r, B.sD 517 0 0) := by
  obtain ⟨⟨-, ⟨a3, -⟩, -⟩, ⟨-, ⟨b16, -⟩, -⟩, hp, hw, -⟩ := hT
  have e4 : E 4 0 ≤ 16 := hE.1
  have hw' := lT_le hw
  have hu2 := lU_le hun
  have hP := gr_P hGA hp
  have W := gr_W hGA 12 (by decide)
  have hGB1 : Gr (B.sD 517 0 0) := hGB.sD
  have T := gr_T hGB1 w hw
  have U := gr_U hGB1 un hun
  have hwr1 : (B.sD 517 0 0).P 517 3 = .ref w := hwr
  have b91 : (B.sD 517 0 0).P 517 9 = .ref un := b9
  have d : ∀ a f, a ≠ 517 → (B.sD 517 0 0).D a f = B.D a f := fun a f y => rdw y
  have hPL := hW.1.1
  have hPB : PPB Q (B.sD 517 0 0) un := fun x hx => by
    rw [d _ _ (by omega), d _ _ (by omega), d _ _ (by omega)]
    exact hW.1.2.1 x hx
  have ic : F_M_isComponent N 517 q (B.sD 517 0 0) = some (if q < 0 then (0 : Int32) else if nI (E 4 0) - 1 < q then 0 else 1, B.sD 517 0 0) := by
    unfold F_M_isComponent
    rw [ck_t (rS_517 hGB1), rf_t hwr1, ck_t (TS T), bnd_t, d w 16 (by omega), b16, bC_t (ev_in (a := (0 : Int64)) (b := (nI (E 4 0) - 1).toInt64) (lo := 0) (hi := nI (E 4 0) - 1) rfl rfl), ck_t (by split; decide; split <;> decide)]
  have eB : F_M_has N 517 e q B = (if (if q < 0 then (0 : Int32) else if nI (E 4 0) - 1 < q then 0 else 1) = 0 then some (0, B.sD 517 0 0) else bC (F_MWorld_has N un e q (B.sD 517 0 0)) fun v11 H12 => if v11 = (0 : Int32) then some (0, H12) else some (1, H12)) := by
    unfold F_M_has
    rw [ck_t (rS_517 hGB), bnd_t, bC_t ic, rf_t b91, ck_t (US U)]
  have eA : F_W_has N 0 e q A = (if (if liv Q e then nI (lo8 e) else -1) < (0 : Int32) then some (0, A) else if q < 0 then some (0, A) else if q < nI (E 4 0) then bC (F_World_owns N 12 (if liv Q e then nI (lo8 e) else -1) q A) fun v28 H29 => ck (v28 &&& 1 = v28) <| some (v28, H29) else some (0, A)) := by
    unfold F_W_has
    rw [ck_t (rS_0 hGA), rf_t (rP_0_2 hGA), ck_t (rS_11 hGA), rf_t (rP_11_0 hGA), ck_t (rA_11_0 hGA), bC_t (ev_placeOf W hPL), rf_t hpr, ck_t (PrS hP), rf_t (PrP_2 hP), ck_t (PrA_2 hP), bnd_t, a3, rf_t (rP_0_2 hGA), ck_t (rS_11 hGA), rf_t (rP_11_0 hGA), ck_t (rA_11_0 hGA)]
  have l8 : lo8 e < 256 := lo8_lt
  by_cases q1 : q < 0
  · rw [if_pos q1, if_pos rfl] at eB
    refine ⟨0, ?_, eB⟩
    rw [eA, if_pos q1, ite_self]
  · have m1 := nI_m1 (n := E 4 0) (by omega) q q1
    by_cases q2 : q < nI (E 4 0)
    · obtain ⟨c, hc, rfl⟩ := nI_small (n := E 4 0) q1 (fun y => i32_nlt.mpr y q2) (by omega)
      rw [if_neg q1, if_neg (fun y => i32_nlt.mpr (m1.mp y) q2), if_neg (by decide), bC_t (ev_mhas U hPB (by omega))] at eB
      by_cases a : liv Q e
      · rw [if_pos a, if_neg (show ¬ nI (lo8 e) < (0 : Int32) from nI_nlt (b := 0) (by omega) (by omega)), if_neg q1, if_pos q2, bC_t (ev_owns W hPL l8 (by omega) a.1)] at eA
        by_cases bb : Q 2 (lo8 e) / 2 ^ c % 2 = 1
        · rw [if_pos bb, ck_t (by decide)] at eA
          rw [if_pos (show liv Q e ∧ Q 2 (lo8 e) / 2 ^ c % 2 = 1 from ⟨a, bb⟩), if_neg (show ¬ (1 : Int32) = 0 by decide)] at eB
          exact ⟨1, eA, eB⟩
        · rw [if_neg bb, ck_t (by decide)] at eA
          rw [if_neg (show ¬ (liv Q e ∧ Q 2 (lo8 e) / 2 ^ c % 2 = 1) from fun y => bb y.2), if_pos rfl] at eB
          exact ⟨0, eA, eB⟩
      · rw [if_neg a, if_pos (by decide)] at eA
        rw [if_neg (show ¬ (liv Q e ∧ Q 2 (lo8 e) / 2 ^ c % 2 = 1) from fun y => a y.1), if_pos rfl] at eB
        exact ⟨0, eA, eB⟩
    · rw [if_neg q1, if_pos (m1.mpr (i32_nlt.mp q2)), if_pos rfl] at eB
      refine ⟨0, ?_, eB⟩
      rw [eA, if_neg q1, if_neg q2, ite_self]
end Par
