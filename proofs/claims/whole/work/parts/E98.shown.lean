/-! ===== the calls shown, get, pending ===== -/
section Par
variable {N p wo inp cs w u ir M K0 : Nat} {s pl : Int32} {ty mn nu cd : Nat → Int32} {E Q : Nat → Nat → Nat} {V : Nat → Nat → Int32} {nL lc : Nat} {lk : Nat → Nat} {hd : Nat → Int32}
theorem shown_jo {kT : Nat} {q : Int32} {A B : Hp} (hGA : Gr A) (hGB : Gr B) (hTl : TLD kT A B) (hk : kT < 2 ^ 31) : (∃ r, F_W_shown N 0 q A = some (.inl r, A) ∧ F_M_shown N 517 q B = some (r, B.sD 517 0 0)) ∨ (F_W_shown N 0 q A = some (.inr A.sh.length, A.nx (18, 0) 6) ∧ F_M_shown N 517 q B = some (0, B.sD 517 0 1)) := by
  obtain ⟨t1, t2, t, t3, t4⟩ := hTl
  have t5 : B.D 517 20 = nI t := by rw [← t1]; exact t4
  obtain ⟨mt, hm, m1, m2⟩ : ∃ mt, mt ≤ t ∧ F_Math_min N (nI t) 256 A = some (nI mt, A) ∧ F_M_shown N 517 q B = B_M_shown_24 N 517 q 517 (q.toInt64) 0 (nI mt) B := by
    by_cases y : 256 ≤ t
    · refine ⟨256, y, ?_, ?_⟩
      · unfold F_Math_min
        by_cases z : (256 : Int32) < nI t
        · rw [if_pos z]; rfl
        · rw [if_neg z]
          have : t = 256 := Decidable.byContradiction fun k => z (nI_lt (a := 256) (by omega) (by omega))
          rw [this]
      · unfold F_M_shown
        rw [ck_t (rS_517 hGB), bnd_t, t5, if_pos (show (256 : Int32) ≤ nI t from nI_le (a := 256) y (by omega))]
        rfl
    · refine ⟨t, Nat.le_refl _, ?_, ?_⟩
      · unfold F_Math_min
        rw [if_neg (show ¬ (256 : Int32) < nI t from nI_nlt (a := 256) (by omega) (by omega))]
      · unfold F_M_shown
        rw [ck_t (rS_517 hGB), bnd_t, t5, if_neg (show ¬ (256 : Int32) ≤ nI t from nI_ge (b := 256) (by omega) (by omega)), bnd_t]
  have e24 : F_M_shown N 517 q B = (if (if q < 0 then (0 : Int32) else if nI mt - 1 < q then 0 else 1) = 0 then B_M_shown_38 N 517 q 517 1 B else B_M_shown_38 N 517 q 517 0 B) := by
    rw [m2]
    unfold B_M_shown_24
    rw [bC_t (ev_in (a := (0 : Int64)) (b := (nI mt - 1).toInt64) (lo := 0) (hi := nI mt - 1) rfl rfl)]
  have e38 : B_M_shown_38 N 517 q 517 1 B = some (0, B.sD 517 0 1) := by
    have G1 : Gr (B.sD 517 0 1) := hGB.sD
    unfold B_M_shown_38
    rw [ck_t (rS_517 hGB), bnd_t, ck_t (rS_517 G1), bnd_t, rds, if_neg (by decide)]
  by_cases q1 : q < 0
  · rw [if_pos q1, if_pos rfl, e38] at e24
    refine .inr ⟨?_, e24⟩
    unfold F_W_shown B_W_shown_21
    rw [if_pos q1]
  · have mm := nI_m1 (n := mt) (by omega) q q1
    have eA : F_W_shown N 0 q A = (if q < nI mt then rf (A.P 0 2) fun a13 => ck (A.sh[a13]? = some (10, 0)) <| rf (A.P a13 4) fun a16 => rf (A.P 0 2) fun a18 => ck (A.sh[a18]? = some (10, 0)) <| bnd ((A.D a18 5)) fun x21 => ar A 100 a16 fun n22 => ck (inb (((x21 - (1 : Int32)) - q) &&& (255 : Int32)) n22) <| bnd ((A.D a16 ((((x21 - (1 : Int32)) - q) &&& (255 : Int32))).toNatClampNeg)) fun x25 => some (.inl x25, A) else some (.inr A.sh.length, A.nx (18, 0) 6)) := by
      unfold F_W_shown B_W_shown_21
      rw [if_neg q1, ck_t (rS_0 hGA), rf_t (rP_0_2 hGA), ck_t (rS_11 hGA), bnd_t, t4, bC_t m1]
    by_cases q2 : q < nI mt
    · rw [if_neg q1, if_neg (fun y => i32_nlt.mpr (mm.mp y) q2), if_neg (by decide)] at e24
      rw [if_pos q2, rf_t (rP_0_2 hGA), ck_t (rS_11 hGA), rf_t (rP_11_4 hGA), rf_t (rP_0_2 hGA), ck_t (rS_11 hGA), bnd_t, t4, ar_t (rA_11_4 hGA), lo8_e, rdI lo8_lt (by decide)] at eA
      refine .inl ⟨_, eA, ?_⟩
      have G1 : Gr (B.sD 517 0 0) := hGB.sD
      rw [e24]
      unfold B_M_shown_38
      rw [ck_t (rS_517 hGB), bnd_t, ck_t (rS_517 G1), bnd_t, rds, if_pos (by decide), rf_t (rP_517_19 G1), bnd_t, rdf (by decide), t5, ar_t (rA_517_19 G1), lo8_e, rdI lo8_lt (by decide), rdw (by decide), ← t2 _ lo8_lt]
    · rw [if_neg q1, if_pos (mm.mpr (i32_nlt.mp q2)), if_pos rfl, e38] at e24
      rw [if_neg q2] at eA
      exact .inr ⟨eA, e24⟩
/-- has, on both sides -/
theorem hs_jo {e q : Int32} {Nm : Nat → Nat → List Nat} {Pv : Nat → Nat → Int32} {A B : Hp} {un : Nat} (hT : TXF A p B w cs M ty mn nu cd E Nm Pv) (hE : WE E) (hGA : Gr A) (hGB : Gr B) (hpr : A.P 0 4 = .ref p) (hwr : B.P 517 3 = .ref w) (hun : un ∈ lU) (hW : WRL A 12 B un E Q) : (∃ c, c < E 4 0 ∧ q = nI c ∧ liv Q e ∧ Q 2 (lo8 e) / 2 ^ c % 2 = 1 ∧ F_W_has N 0 e q A = some (1, A) ∧ F_M_isComponent N 517 q B = some (1, B) ∧ F_MWorld_has N un e q B = some (1, B)) ∨ (F_W_has N 0 e q A = some (0, A) ∧ (F_M_isComponent N 517 q B = some (0, B) ∨ (F_M_isComponent N 517 q B = some (1, B) ∧ F_MWorld_has N un e q B = some (0, B)))) := by
  obtain ⟨⟨-, ⟨a3, -⟩, -⟩, ⟨-, ⟨b16, -⟩, -⟩, hp, hw, -⟩ := hT
  have e4 : E 4 0 ≤ 16 := hE.1
  have hw' := lT_le hw
  have hu2 := lU_le hun
  have hP := gr_P hGA hp
  have W := gr_W hGA 12 (by decide)
  have T := gr_T hGB w hw
  have U := gr_U hGB un hun
  have hPL := hW.1
  have hPB := hW.2.1
  have ic : F_M_isComponent N 517 q B = some (if q < 0 then (0 : Int32) else if nI (E 4 0) - 1 < q then 0 else 1, B) := by
    unfold F_M_isComponent
    rw [ck_t (rS_517 hGB), rf_t hwr, ck_t (TS T), bnd_t, b16, bC_t (ev_in (a := (0 : Int64)) (b := (nI (E 4 0) - 1).toInt64) (lo := 0) (hi := nI (E 4 0) - 1) rfl rfl), ck_t (by split; decide; split <;> decide)]
  have eA : F_W_has N 0 e q A = (if (if liv Q e then nI (lo8 e) else -1) < (0 : Int32) then some (0, A) else if q < 0 then some (0, A) else if q < nI (E 4 0) then bC (F_World_owns N 12 (if liv Q e then nI (lo8 e) else -1) q A) fun v28 H29 => ck (v28 &&& 1 = v28) <| some (v28, H29) else some (0, A)) := by
    unfold F_W_has
    rw [ck_t (rS_0 hGA), rf_t (rP_0_2 hGA), ck_t (rS_11 hGA), rf_t (rP_11_0 hGA), ck_t (rA_11_0 hGA), bC_t (ev_placeOf W hPL), rf_t hpr, ck_t (PrS hP), rf_t (PrP_2 hP), ck_t (PrA_2 hP), bnd_t, a3, rf_t (rP_0_2 hGA), ck_t (rS_11 hGA), rf_t (rP_11_0 hGA), ck_t (rA_11_0 hGA)]
  have l8 : lo8 e < 256 := lo8_lt
  by_cases q1 : q < 0
  · rw [if_pos q1] at ic
    refine .inr ⟨?_, .inl ic⟩
    rw [eA, if_pos q1, ite_self]
  · have m1 := nI_m1 (n := E 4 0) (by omega) q q1
    by_cases q2 : q < nI (E 4 0)
    · obtain ⟨c, hc, rfl⟩ := nI_small (n := E 4 0) q1 (fun y => i32_nlt.mpr y q2) (by omega)
      rw [if_neg q1, if_neg (fun y => i32_nlt.mpr (m1.mp y) q2)] at ic
      have mh := ev_mhas (N := N) (v := e) U hPB (show c < 16 by omega)
      by_cases a : liv Q e
      · rw [if_pos a, if_neg (show ¬ nI (lo8 e) < (0 : Int32) from nI_nlt (b := 0) (by omega) (by omega)), if_neg q1, if_pos q2, bC_t (ev_owns W hPL l8 (by omega) a.1)] at eA
        by_cases bb : Q 2 (lo8 e) / 2 ^ c % 2 = 1
        · rw [if_pos bb, ck_t (by decide)] at eA
          rw [if_pos (show liv Q e ∧ Q 2 (lo8 e) / 2 ^ c % 2 = 1 from ⟨a, bb⟩)] at mh
          exact .inl ⟨c, hc, rfl, a, bb, eA, ic, mh⟩
        · rw [if_neg bb, ck_t (by decide)] at eA
          rw [if_neg (show ¬ (liv Q e ∧ Q 2 (lo8 e) / 2 ^ c % 2 = 1) from fun y => bb y.2)] at mh
          exact .inr ⟨eA, .inr ⟨ic, mh⟩⟩
      · rw [if_neg a, if_pos (by decide)] at eA
        rw [if_neg (show ¬ (liv Q e ∧ Q 2 (lo8 e) / 2 ^ c % 2 = 1) from fun y => a y.1)] at mh
        exact .inr ⟨eA, .inr ⟨ic, mh⟩⟩
    · rw [if_neg q1, if_pos (m1.mpr (i32_nlt.mp q2))] at ic
      refine .inr ⟨?_, .inl ic⟩
      rw [eA, if_neg q1, if_neg q2, ite_self]
/-- a member, on both sides -/
theorem mb_jo {e q i : Int32} {Nm : Nat → Nat → List Nat} {Pv : Nat → Nat → Int32} {A B : Hp} {un : Nat} (hT : TXF A p B w cs M ty mn nu cd E Nm Pv) (hE : WE E) (hGA : Gr A) (hGB : Gr B) (hpr : A.P 0 4 = .ref p) (hwr : B.P 517 3 = .ref w) (hun : un ∈ lU) (b9 : B.P 517 9 = .ref un) (hW : WRL A 12 B un E Q) : (∃ c m, c < E 4 0 ∧ q = nI c ∧ i = nI m ∧ E 5 c + m < E 5 (c + 1) ∧ liv Q e ∧ Q 2 (lo8 e) / 2 ^ c % 2 = 1 ∧ F_W_offsetOf N 0 e q i A = some (nI (E 5 c + m), A) ∧ F_M_isMember N 517 e q i B = some (1, B)) ∨ (F_W_offsetOf N 0 e q i A = some (-1, A) ∧ F_M_isMember N 517 e q i B = some (0, B)) := by
  have hs := hs_jo (N := N) (e := e) (q := q) hT hE hGA hGB hpr hwr hun hW
  obtain ⟨⟨-, ⟨a3, a5, -⟩, -⟩, ⟨-, ⟨b16, b12, -⟩, -⟩, hp, hw, -⟩ := hT
  have e4 : E 4 0 ≤ 16 := hE.1
  have hw' := lT_le hw
  have hu2 := lU_le hun
  have hP := gr_P hGA hp
  have T := gr_T hGB w hw
  have U := gr_U hGB un hun
  rcases hs with ⟨c, hc, rfl, a, bb, h1, h2, h3⟩ | ⟨h1, h2⟩
  · obtain ⟨w1, w2, w3⟩ := hE.2.2.1 c hc
    have w4 := hE.2.2.2.1
    have eA : F_W_offsetOf N 0 e (nI c) i A = (if i < 0 then some ((-1), A) else if i < nI (E 5 (c + 1) - E 5 c) then some (nI (E 5 c) + i, A) else some ((-1), A)) := by
      unfold F_W_offsetOf
      rw [ck_t (rS_0 hGA), bC_t h1, if_neg (by decide), rf_t hpr, ck_t (PrS hP), rf_t (PrP_2 hP), ck_t (PrA_2 hP), bC_t (ev_sizeOf (fr := p + 137) (R := 17) (PrA_2 hP) (PcP_2 hP) (PcA_2 hP) (by decide) a3 (by omega) hc (a5 c (by omega)) (a5 (c + 1) (by omega)) w1), rf_t (PcP_2 hP), ar_t (PcA_2 hP), rdI (show c < 17 by omega) (by decide), a5 c (by omega)]
    have eB : F_M_isMember N 517 e (nI c) i B = (if (if i < 0 then (0 : Int32) else if nI (E 5 (c + 1) - E 5 c) - 1 < i then 0 else 1) = 0 then some (0, B) else some (1, B)) := by
      unfold F_M_isMember
      rw [ck_t (rS_517 hGB), bC_t h2, if_neg (by decide), rf_t b9, ck_t (US U), bC_t h3, if_neg (by decide), rf_t hwr, ck_t (TS T), rf_t (TP_18 T), ar_t (TA_18 T), nI_1, rdI (show c + 1 < 17 by omega) (by decide), b12 (c + 1) (by omega), rf_t hwr, ck_t (TS T), rf_t (TP_18 T), ar_t (TA_18 T), rdI (show c < 17 by omega) (by decide), b12 c (by omega), nI_dif w1, bC_t (ev_in (a := (0 : Int64)) (b := (nI (E 5 (c + 1) - E 5 c) - 1).toInt64) (lo := 0) (hi := nI (E 5 (c + 1) - E 5 c) - 1) rfl rfl)]
    by_cases q1 : i < 0
    · rw [if_pos q1] at eA
      rw [if_pos q1, if_pos rfl] at eB
      exact .inr ⟨eA, eB⟩
    · have m1 := nI_m1 (n := E 5 (c + 1) - E 5 c) (by omega) i q1
      rw [if_neg q1] at eA eB
      by_cases q2 : i < nI (E 5 (c + 1) - E 5 c)
      · obtain ⟨m, hm, rfl⟩ := nI_small (n := E 5 (c + 1) - E 5 c) q1 (fun y => i32_nlt.mpr y q2) (by omega)
        rw [if_pos q2, nI_ad] at eA
        rw [if_neg (fun y => i32_nlt.mpr (m1.mp y) q2), if_neg (by decide)] at eB
        exact .inl ⟨c, m, hc, rfl, rfl, by omega, a, bb, eA, eB⟩
      · rw [if_neg q2] at eA
        rw [if_pos (m1.mpr (i32_nlt.mp q2)), if_pos rfl] at eB
        exact .inr ⟨eA, eB⟩
  · refine .inr ⟨?_, ?_⟩
    · unfold F_W_offsetOf
      rw [ck_t (rS_0 hGA), bC_t h1, if_pos rfl]
    · unfold F_M_isMember
      rcases h2 with h2 | ⟨h2, h3⟩
      · rw [ck_t (rS_517 hGB), bC_t h2, if_pos rfl]
      · rw [ck_t (rS_517 hGB), bC_t h2, if_neg (by decide), rf_t b9, ck_t (US U), bC_t h3, if_pos rfl]
theorem get_jo {e q i : Int32} {Nm : Nat → Nat → List Nat} {Pv : Nat → Nat → Int32} {A B : Hp} {un : Nat} (hT : TXF A p B w cs M ty mn nu cd E Nm Pv) (hE : WE E) (hGA : Gr A) (hGB : Gr B) (hpr : A.P 0 4 = .ref p) (hwr : B.P 517 3 = .ref w) (hun : un ∈ lU) (b9 : B.P 517 9 = .ref un) (hW : WRL A 12 B un E Q) : (∃ r, F_W_get N 0 e q i A = some (.inl r, A) ∧ F_M_get N 517 e q i B = some (r, B.sD 517 0 0)) ∨ (F_W_get N 0 e q i A = some (.inr A.sh.length, A.nx (18, 0) 6) ∧ F_M_get N 517 e q i B = some (0, B.sD 517 0 1)) := by
  have hs := mb_jo (N := N) (e := e) (q := q) (i := i) hT hE hGA hGB hpr hwr hun b9 hW
  obtain ⟨⟨-, ⟨a3, a5, -⟩, -⟩, ⟨-, ⟨b16, b12, -⟩, -⟩, hp, hw, -⟩ := hT
  have e4 : E 4 0 ≤ 16 := hE.1
  have hw' := lT_le hw
  have hu2 := lU_le hun
  have W := gr_W hGA 12 (by decide)
  obtain ⟨w1, w2, w3, w4, w5, w6, w7⟩ := hW
  rcases hs with ⟨c, m, hc, rfl, rfl, hm, a, bb, h1, h2⟩ | ⟨h1, h2⟩
  · have mo : mOf E c (E 5 c + m) := ⟨hc, by omega, hm⟩
    have ml := mOf_lt hE mo
    have l8 : lo8 e < 256 := lo8_lt
    have G1 : Gr (B.sD 517 0 0) := hGB.sD
    have T := gr_T G1 w hw
    have U := gr_U G1 un hun
    refine .inl ⟨B.D (un + 4) (48 * lo8 e + (E 5 c + m)), ?_, ?_⟩
    · unfold F_W_get
      rw [ck_t (rS_0 hGA), bC_t h1, if_pos (show (0 : Int32) ≤ nI (E 5 c + m) from nI_le (a := 0) (by omega) (by omega)), rf_t (rP_0_2 hGA), ck_t (rS_11 hGA), rf_t (rP_11_0 hGA), rf_t (rP_0_2 hGA), ck_t (rS_11 hGA), rf_t (rP_11_0 hGA), ck_t (rA_11_0 hGA), bC_t (ev_placeOf W w1), if_pos a, ck_t (rA_11_0 hGA), bC_t (ev_read W w4.1 w4.2.1 l8 (by omega)), w3 _ c _ l8 a.1 bb mo]
    · unfold F_M_get
      rw [ck_t (rS_517 hGB), bC_t h2, if_neg (by decide)]
      unfold B_M_get_16
      rw [ck_t (rS_517 hGB), bnd_t, ck_t (rS_517 G1), bnd_t, rds, if_pos (by decide), rf_t (show (B.sD 517 0 0).P 517 9 = .ref un from b9), ck_t (US U), rf_t (UP_7 U), rf_t (show (B.sD 517 0 0).P 517 3 = .ref w from hwr), ck_t (TS T), rf_t (TP_18 T), ar_t (TA_18 T), rdI (show c < 17 by omega) (by decide), rdw (show w + 12 ≠ 517 by omega), b12 c (by omega), ar_t (UA_7 U), lo8_e, show (48 : Int32) * nI (lo8 e) = nI (48 * lo8 e) from nI_mu 48 _, nI_ad, nI_ad, rdI (show 48 * lo8 e + E 5 c + m < 12288 by omega) (by decide), rdw (show un + 4 ≠ 517 by omega), show 48 * lo8 e + E 5 c + m = 48 * lo8 e + (E 5 c + m) by omega]
  · refine .inr ⟨?_, ?_⟩
    · unfold F_W_get
      rw [ck_t (rS_0 hGA), bC_t h1, if_neg (by decide)]
    · have G1 : Gr (B.sD 517 0 1) := hGB.sD
      unfold F_M_get
      rw [ck_t (rS_517 hGB), bC_t h2, if_pos rfl]
      unfold B_M_get_16
      rw [ck_t (rS_517 hGB), bnd_t, ck_t (rS_517 G1), bnd_t, rds, if_neg (by decide)]
theorem pending_jo {k q : Int32} {Nm : Nat → Nat → List Nat} {Pv : Nat → Nat → Int32} {A B : Hp} {un : Nat} (hT : TXF A p B w cs M ty mn nu cd E Nm Pv) (hE : WE E) (hGA : Gr A) (hGB : Gr B) (hpr : A.P 0 4 = .ref p) (hwr : B.P 517 3 = .ref w) (hun : un ∈ lU) (b9 : B.P 517 9 = .ref un) (hW : WRL A 12 B un E Q) (hPe : PEV E Q B un) : ∃ r, F_W_pending N 0 k q A = some (r, A) ∧ F_M_pending N 517 k q B = some (r, B.sD 517 0 0) := by
  obtain ⟨⟨-, -, ⟨a3, a11, -⟩, -⟩, ⟨-, -, ⟨b21, b10, -⟩, -⟩, hp, hw, -⟩ := hT
  have hw' := lT_le hw
  have hu2 := lU_le hun
  have hP := gr_P hGA hp
  have W := gr_W hGA 12 (by decide)
  have G1 : Gr (B.sD 517 0 0) := hGB.sD
  have T := gr_T G1 w hw
  have U := gr_U G1 un hun
  have hwr1 : (B.sD 517 0 0).P 517 3 = .ref w := hwr
  have b91 : (B.sD 517 0 0).P 517 9 = .ref un := b9
  have d : ∀ a f, a ≠ 517 → (B.sD 517 0 0).D a f = B.D a f := fun a f y => rdw y
  obtain ⟨w1, w2, w3, w4, w5, ⟨w61, w62, w63, w64⟩, w7⟩ := hW
  have eB0 : F_M_pending N 517 k q B = bC (F_M_in N (k.toInt64) (0 : Int64) ((nI (Q 5 2) - (1 : Int32)).toInt64) (B.sD 517 0 0)) fun v8 H9 => if v8 = (0 : Int32) then some ((-1), H9) else if (0 : Int32) ≤ q then if (3 : Int32) ≤ q then rf (H9.P 517 3) fun a13 => ck (H9.sh[a13]? = some (14, 0)) <| rf (H9.P a13 23) fun a16 => rf (H9.P 517 9) fun a18 => ck (H9.sh[a18]? = some (13, 0)) <| rf (H9.P a18 9) fun a21 => ar H9 100 a21 fun n23 => ck (inb k n23) <| bnd ((H9.D a21 (k).toNatClampNeg)) fun x26 => ar H9 100 a16 fun n27 => ck (inb x26 n27) <| bnd ((H9.D a16 (x26).toNatClampNeg)) fun x30 => if x30 ≤ (q - (3 : Int32)) then some ((-1), H9) else rf (H9.P 517 9) fun a32 => ck (H9.sh[a32]? = some (13, 0)) <| rf (H9.P a32 12) fun a35 => ar H9 100 a35 fun n37 => ck (inb ((((4 : Int32) * k) + q) - (3 : Int32)) n37) <| bnd ((H9.D a35 (((((4 : Int32) * k) + q) - (3 : Int32))).toNatClampNeg)) fun x40 => some (x40, H9) else if q = (0 : Int32) then rf (H9.P 517 9) fun a61 => ck (H9.sh[a61]? = some (13, 0)) <| rf (H9.P a61 9) fun a64 => ar H9 100 a64 fun n66 => ck (inb k n66) <| bnd ((H9.D a64 (k).toNatClampNeg)) fun x69 => some (x69, H9) else if q = (1 : Int32) then rf (H9.P 517 9) fun a52 => ck (H9.sh[a52]? = some (13, 0)) <| rf (H9.P a52 10) fun a55 => ar H9 100 a55 fun n57 => ck (inb k n57) <| bnd ((H9.D a55 (k).toNatClampNeg)) fun x60 => some (x60, H9) else rf (H9.P 517 9) fun a43 => ck (H9.sh[a43]? = some (13, 0)) <| rf (H9.P a43 11) fun a46 => ar H9 100 a46 fun n48 => ck (inb k n48) <| bnd ((H9.D a46 (k).toNatClampNeg)) fun x51 => some (x51, H9) else some ((-1), H9) := by
    unfold F_M_pending
    rw [ck_t (rS_517 hGB), bnd_t, rf_t b91, ck_t (US U), bnd_t, d un 8 (by omega), w62]
  rw [bC_t (ev_in (a := (0 : Int64)) (b := (nI (Q 5 2) - 1).toInt64) (lo := 0) (hi := nI (Q 5 2) - 1) rfl rfl)] at eB0
  have eA0 : F_W_pending N 0 k q A = (if k < (0 : Int32) then some ((-1), A) else if nI (Q 5 2) ≤ k then some ((-1), A) else if q < (0 : Int32) then some ((-1), A) else if q < (7 : Int32) then rf (A.P 12 12) fun a13 => ar A 100 a13 fun n15 => ck (inb (k * (7 : Int32)) n15) <| bnd ((A.D a13 ((k * (7 : Int32))).toNatClampNeg)) fun x18 => if q < (3 : Int32) then B_W_pending_68 N 0 k q 12 A else rf (A.P 0 4) fun a34 => ck (A.sh[a34]? = some (4, 0)) <| rf (A.P a34 3) fun a37 => ck (A.sh[a37]? = some (3, 0)) <| bC (F_Shapes_sizeOf N a37 x18 A) fun v41 H42 => if (q - (3 : Int32)) < v41 then B_W_pending_68 N 0 k q 12 H42 else some ((-1), H42) else some ((-1), A)) := by
    unfold F_W_pending
    rw [ck_t (rS_0 hGA), rf_t (rP_0_2 hGA), ck_t (rS_11 hGA), rf_t (rP_11_0 hGA), ck_t (rA_11_0 hGA), bnd_t, w61]
  by_cases k1 : k < 0
  · rw [if_pos k1] at eA0
    rw [if_pos k1, if_pos rfl] at eB0
    exact ⟨_, eA0, eB0⟩
  have m1 := nI_m1 (n := Q 5 2) (by omega) k k1
  rw [if_neg k1] at eA0 eB0
  by_cases k2 : nI (Q 5 2) ≤ k
  · rw [if_pos k2] at eA0
    rw [if_pos (m1.mpr k2), if_pos rfl] at eB0
    exact ⟨_, eA0, eB0⟩
  rw [if_neg k2] at eA0
  rw [if_neg (fun y => k2 (m1.mp y)), if_neg (by decide)] at eB0
  obtain ⟨kk, hk, rfl⟩ := nI_small (n := Q 5 2) k1 k2 (by omega)
  obtain ⟨m0, m1, m2, m3⟩ := w64 kk hk
  obtain ⟨e, he, hev⟩ := hPe kk hk
  have e8 := hE.2.2.2.2.2.1
  obtain ⟨x1, x2, x3⟩ := hE.2.2.2.2.2.2.2.1 e he
  by_cases q1 : q < 0
  · rw [if_pos q1] at eA0
    rw [if_neg (fun y => i32_nlt.mpr y q1)] at eB0
    exact ⟨_, eA0, eB0⟩
  rw [if_neg q1] at eA0
  rw [if_pos (i32_nlt.mp q1)] at eB0
  have e7 : nI kk * (7 : Int32) = nI (7 * kk) := by rw [Nat.mul_comm]; exact nI_mu kk 7
  have esz : F_Shapes_sizeOf N (p + 138) (nI e) A = some (nI (E 11 (e + 1) - E 11 e), A) := ev_sizeOf (fr := p + 181) (R := 9) (PrA_3 hP) (PeP_2 hP) (PeA_2 hP) (by decide) a3 (by omega) he (a11 e (by omega)) (a11 (e + 1) (by omega)) (by omega)
  rw [show E 11 (e + 1) - E 11 e = E 10 e by omega] at esz
  have e68 : ∀ m, m < 7 → B_W_pending_68 N 0 (nI kk) (nI m) 12 A = some (A.D 16 (7 * kk + m), A) := fun m hm => by
    unfold B_W_pending_68
    rw [ck_t (rA_11_0 hGA), rf_t (WP_12 W), ar_t (WA_12 W), e7, nI_ad, rdI (show 7 * kk + m < 1792 by omega) (by decide)]
  by_cases q7 : q < 7
  · obtain ⟨m, hm, rfl⟩ := nI_small (n := 7) q1 (fun y => i32_nlt.mpr y q7) (by decide)
    rw [if_pos q7, rf_t (WP_12 W), ar_t (WA_12 W), e7, rdI (show 7 * kk < 1792 by omega) (by decide), e68 m hm, show A.D (12 + 4) (7 * kk) = nI e by rw [m0]; exact hev, rf_t hpr, ck_t (PrS hP), rf_t (PrP_3 hP), ck_t (PrA_3 hP), bC_t esz] at eA0
    by_cases q3 : m < 3
    · rw [if_pos (show nI m < (3 : Int32) from nI_lt (b := 3) q3 (by decide))] at eA0
      rw [if_neg (show ¬ (3 : Int32) ≤ nI m from nI_ge (b := 3) q3 (by decide))] at eB0
      refine ⟨_, eA0, ?_⟩
      rw [eB0]
      have mm : m = 0 ∨ m = 1 ∨ m = 2 := by omega
      rcases mm with rfl | rfl | rfl
      · rw [if_pos (show nI 0 = (0 : Int32) from rfl), rf_t b91, ck_t (US U), rf_t (UP_9 U), ar_t (UA_9 U), rdI (show kk < 256 by omega) (by decide), d _ _ (by omega)]
        exact congrArg (fun v => some (v, B.sD 517 0 0)) m0.symm
      · rw [if_neg (show ¬ nI 1 = (0 : Int32) by decide), if_pos (show nI 1 = (1 : Int32) from rfl), rf_t b91, ck_t (US U), rf_t (UP_10 U), ar_t (UA_10 U), rdI (show kk < 256 by omega) (by decide), d _ _ (by omega)]
        exact congrArg (fun v => some (v, B.sD 517 0 0)) m1.symm
      · rw [if_neg (show ¬ nI 2 = (0 : Int32) by decide), if_neg (show ¬ nI 2 = (1 : Int32) by decide), rf_t b91, ck_t (US U), rf_t (UP_11 U), ar_t (UA_11 U), rdI (show kk < 256 by omega) (by decide), d _ _ (by omega)]
        exact congrArg (fun v => some (v, B.sD 517 0 0)) m2.symm
    · have s3 : nI m - (3 : Int32) = nI (m - 3) := nI_dif (b := 3) (by omega)
      rw [if_neg (show ¬ nI m < (3 : Int32) from nI_nlt (b := 3) (by omega) (by omega)), s3] at eA0
      rw [if_pos (show (3 : Int32) ≤ nI m from nI_le (a := 3) (by omega) (by omega)), rf_t hwr1, ck_t (TS T), rf_t (TP_23 T), rf_t b91, ck_t (US U), rf_t (UP_9 U), ar_t (UA_9 U), rdI (show kk < 256 by omega) (by decide), d _ _ (by omega), hev, ar_t (TA_23 T), rdI (show e < 8 by omega) (by decide), d _ _ (by omega), b10 e he, s3] at eB0
      by_cases y : m - 3 < E 10 e
      · rw [if_pos (nI_lt y (by omega)), e68 m hm] at eA0
        rw [if_neg (nI_ge y (by omega)), rf_t b91, ck_t (US U), rf_t (UP_12 U), ar_t (UA_12 U), show (4 : Int32) * nI kk = nI (4 * kk) from nI_mu 4 kk, nI_ad, show nI (4 * kk + m) - (3 : Int32) = nI (4 * kk + m - 3) from nI_dif (b := 3) (by omega), rdI (show 4 * kk + m - 3 < 1024 by omega) (by decide), d _ _ (by omega), show 4 * kk + m - 3 = 4 * kk + (m - 3) by omega, ← m3 e (m - 3) hev he y, show 7 * kk + 3 + (m - 3) = 7 * kk + m by omega] at eB0
        exact ⟨_, eA0, eB0⟩
      · rw [if_neg (nI_nlt (by omega) (by omega))] at eA0
        rw [if_pos (nI_le (by omega) (by omega))] at eB0
        exact ⟨_, eA0, eB0⟩
  · rw [if_neg q7] at eA0
    have q3 : (3 : Int32) ≤ q := by
      have := i32_nlt.mp q7
      rw [Int32.le_iff_toInt_le] at this ⊢
      have e1 : ((7 : Int32)).toInt = 7 := rfl
      have e2 : ((3 : Int32)).toInt = 3 := rfl
      omega
    have q4 : nI (E 10 e) ≤ q - 3 := by
      have h7 := i32_nlt.mp q7
      rw [Int32.le_iff_toInt_le] at h7 ⊢
      have e1 : ((7 : Int32)).toInt = 7 := rfl
      have e2 : ((3 : Int32)).toInt = 3 := rfl
      have hb := Int32.toInt_lt q
      have hn := nI_int (n := E 10 e) (by omega)
      have hs : (q - 3).toInt = q.toInt - 3 := by
        rw [Int32.toInt_sub, e2, Int.bmod_eq_of_le] <;> omega
      omega
    rw [if_pos q3, rf_t hwr1, ck_t (TS T), rf_t (TP_23 T), rf_t b91, ck_t (US U), rf_t (UP_9 U), ar_t (UA_9 U), rdI (show kk < 256 by omega) (by decide), d _ _ (by omega), hev, ar_t (TA_23 T), rdI (show e < 8 by omega) (by decide), d _ _ (by omega), b10 e he, if_pos q4] at eB0
    exact ⟨_, eA0, eB0⟩
end Par
