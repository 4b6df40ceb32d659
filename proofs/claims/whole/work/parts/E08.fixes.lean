/-! ===== operations on FIX ===== -/
section Par
variable {N p wo inp cs : Nat} {s pl : Int32}
theorem op_70 {A : Hp} {pc h : Nat}  (h0 : VS0 A p wo inp cs) (hs : CS A pc (h + 1)) (hpc : pc < cs) (hp : p ≠ 117) (hh : h < 160) (hc : A.D (p + 191) pc = nI 70) : ∃ A2, VR N s pl 1 A A2 ∧ VO A A2 h (pc + 1) (clp (-(A.D 119 h).toInt64)) := by
  have hG1 : Gr (A.sD 117 12 (nI (pc + 1))) := h0.1
  have hG2 : Gr ((A.sD 117 12 (nI (pc + 1))).sD 117 12 (nI (pc + 2))) := h0.1
  have hGp : Gr ((A.sD 117 12 (nI (pc + 1))).sD 117 6 (nI h)) := h0.1
  refine VR.op (z := ()) h0 hs (by omega) hp hc (by decide) (by decide) (A2 := psA ((A.sD 117 12 (nI (pc + 1))).sD 117 6 (nI h)) h (clp (-(A.D 119 h).toInt64))) ?_ ?_
  · rw [vOp7 (by decide)]
    unfold F_Row_fixes
    rw [ck_t (rS_117 hG1), bC_t (ev_vpop (h := h) hG1 (by rw [rdf (by decide)]; exact hs.2.1) hh), rdw (show (119 : Nat) ≠ 117 by decide), bnd_t, if_pos (show nI 70 = (70 : Int32) by decide), ev_clamp hGp rds hh]
  · have := hs.2.2
    refine ⟨by unfold psA; repeat (first | exact same.rf | refine same.sD ?_ (by unfold EXA; omega)), ⟨?_, ?_, ?_⟩, ?_, ?_⟩ <;> simp [psA, sD_D, up2, this]
theorem op_76 {A : Hp} {pc h : Nat}  (h0 : VS0 A p wo inp cs) (hs : CS A pc (h + 1)) (hpc : pc < cs) (hp : p ≠ 117) (hh : h < 160) (hc : A.D (p + 191) pc = nI 76) : ∃ A2, VR N s pl 1 A A2 ∧ VO A A2 h (pc + 1) (clp ((A.D 119 h).toInt64 >>> (((16 : Int32) : Int32).toInt64 &&& 63))) := by
  have hG1 : Gr (A.sD 117 12 (nI (pc + 1))) := h0.1
  have hG2 : Gr ((A.sD 117 12 (nI (pc + 1))).sD 117 12 (nI (pc + 2))) := h0.1
  have hGp : Gr ((A.sD 117 12 (nI (pc + 1))).sD 117 6 (nI h)) := h0.1
  refine VR.op (z := ()) h0 hs (by omega) hp hc (by decide) (by decide) (A2 := psA ((A.sD 117 12 (nI (pc + 1))).sD 117 6 (nI h)) h (clp ((A.D 119 h).toInt64 >>> (((16 : Int32) : Int32).toInt64 &&& 63)))) ?_ ?_
  · rw [vOp7 (by decide)]
    unfold F_Row_fixes
    rw [ck_t (rS_117 hG1), bC_t (ev_vpop (h := h) hG1 (by rw [rdf (by decide)]; exact hs.2.1) hh), rdw (show (119 : Nat) ≠ 117 by decide), bnd_t, if_neg (show ¬ nI 76 = (70 : Int32) by decide), if_neg (show ¬ nI 76 = (71 : Int32) by decide), if_neg (show ¬ nI 76 = (72 : Int32) by decide), if_neg (show ¬ nI 76 = (73 : Int32) by decide), if_neg (show ¬ nI 76 = (74 : Int32) by decide), if_neg (show ¬ nI 76 = (75 : Int32) by decide), if_pos (show nI 76 = (76 : Int32) by decide), bnd_t, ev_clamp hGp rds hh]
  · have := hs.2.2
    refine ⟨by unfold psA; repeat (first | exact same.rf | refine same.sD ?_ (by unfold EXA; omega)), ⟨?_, ?_, ?_⟩, ?_, ?_⟩ <;> simp [psA, sD_D, up2, this]
theorem op_77 {A : Hp} {pc h : Nat}  (h0 : VS0 A p wo inp cs) (hs : CS A pc (h + 1)) (hpc : pc < cs) (hp : p ≠ 117) (hh : h < 160) (hc : A.D (p + 191) pc = nI 77) : ∃ A2, VR N s pl 1 A A2 ∧ VO A A2 h (pc + 1) (clp ((A.D 119 h).toInt64 * (65536 : Int64))) := by
  have hG1 : Gr (A.sD 117 12 (nI (pc + 1))) := h0.1
  have hG2 : Gr ((A.sD 117 12 (nI (pc + 1))).sD 117 12 (nI (pc + 2))) := h0.1
  have hGp : Gr ((A.sD 117 12 (nI (pc + 1))).sD 117 6 (nI h)) := h0.1
  refine VR.op (z := ()) h0 hs (by omega) hp hc (by decide) (by decide) (A2 := psA ((A.sD 117 12 (nI (pc + 1))).sD 117 6 (nI h)) h (clp ((A.D 119 h).toInt64 * (65536 : Int64)))) ?_ ?_
  · rw [vOp7 (by decide)]
    unfold F_Row_fixes
    rw [ck_t (rS_117 hG1), bC_t (ev_vpop (h := h) hG1 (by rw [rdf (by decide)]; exact hs.2.1) hh), rdw (show (119 : Nat) ≠ 117 by decide), bnd_t, if_neg (show ¬ nI 77 = (70 : Int32) by decide), if_neg (show ¬ nI 77 = (71 : Int32) by decide), if_neg (show ¬ nI 77 = (72 : Int32) by decide), if_neg (show ¬ nI 77 = (73 : Int32) by decide), if_neg (show ¬ nI 77 = (74 : Int32) by decide), if_neg (show ¬ nI 77 = (75 : Int32) by decide), if_neg (show ¬ nI 77 = (76 : Int32) by decide), bnd_t, ev_clamp hGp rds hh]
  · have := hs.2.2
    refine ⟨by unfold psA; repeat (first | exact same.rf | refine same.sD ?_ (by unfold EXA; omega)), ⟨?_, ?_, ?_⟩, ?_, ?_⟩ <;> simp [psA, sD_D, up2, this]
theorem op_71 {A : Hp} {pc h : Nat}  (h0 : VS0 A p wo inp cs) (hs : CS A pc (h + 2)) (hpc : pc < cs) (hp : p ≠ 117) (hh : h + 1 < 160) (hc : A.D (p + 191) pc = nI 71) : ∃ A2, VR N s pl 1 A A2 ∧ VO A A2 h (pc + 1) (clp ((A.D 119 h).toInt64 + (A.D 119 (h + 1)).toInt64)) := by
  have hG1 : Gr (A.sD 117 12 (nI (pc + 1))) := h0.1
  have hG2 : Gr ((A.sD 117 12 (nI (pc + 1))).sD 117 12 (nI (pc + 2))) := h0.1
  have hGa : Gr ((A.sD 117 12 (nI (pc + 1))).sD 117 6 (nI (h + 1))) := h0.1
  have hGb : Gr (((A.sD 117 12 (nI (pc + 1))).sD 117 6 (nI (h + 1))).sD 117 6 (nI h)) := h0.1
  refine VR.op (z := ()) h0 hs (by omega) hp hc (by decide) (by decide) (A2 := psA (((A.sD 117 12 (nI (pc + 1))).sD 117 6 (nI (h + 1))).sD 117 6 (nI h)) h (clp ((A.D 119 h).toInt64 + (A.D 119 (h + 1)).toInt64))) ?_ ?_
  · rw [vOp7 (by decide)]
    unfold F_Row_fixes
    rw [ck_t (rS_117 hG1), bC_t (ev_vpop (h := h + 1) hG1 (by rw [rdf (by decide)]; exact hs.2.1) hh), rdw (show (119 : Nat) ≠ 117 by decide), bnd_t, if_neg (show ¬ nI 71 = (70 : Int32) by decide), if_pos (show nI 71 = (71 : Int32) by decide), bC_t (ev_vpop (h := h) hGa rds (by omega)), rdw (show (119 : Nat) ≠ 117 by decide), rdw (show (119 : Nat) ≠ 117 by decide), bnd_t, ev_clamp hGb rds (by omega)]
  · have := hs.2.2
    refine ⟨by unfold psA; repeat (first | exact same.rf | refine same.sD ?_ (by unfold EXA; omega)), ⟨?_, ?_, ?_⟩, ?_, ?_⟩ <;> simp [psA, sD_D, up2, this]
theorem op_72 {A : Hp} {pc h : Nat}  (h0 : VS0 A p wo inp cs) (hs : CS A pc (h + 2)) (hpc : pc < cs) (hp : p ≠ 117) (hh : h + 1 < 160) (hc : A.D (p + 191) pc = nI 72) : ∃ A2, VR N s pl 1 A A2 ∧ VO A A2 h (pc + 1) (clp ((A.D 119 h).toInt64 - (A.D 119 (h + 1)).toInt64)) := by
  have hG1 : Gr (A.sD 117 12 (nI (pc + 1))) := h0.1
  have hG2 : Gr ((A.sD 117 12 (nI (pc + 1))).sD 117 12 (nI (pc + 2))) := h0.1
  have hGa : Gr ((A.sD 117 12 (nI (pc + 1))).sD 117 6 (nI (h + 1))) := h0.1
  have hGb : Gr (((A.sD 117 12 (nI (pc + 1))).sD 117 6 (nI (h + 1))).sD 117 6 (nI h)) := h0.1
  refine VR.op (z := ()) h0 hs (by omega) hp hc (by decide) (by decide) (A2 := psA (((A.sD 117 12 (nI (pc + 1))).sD 117 6 (nI (h + 1))).sD 117 6 (nI h)) h (clp ((A.D 119 h).toInt64 - (A.D 119 (h + 1)).toInt64))) ?_ ?_
  · rw [vOp7 (by decide)]
    unfold F_Row_fixes
    rw [ck_t (rS_117 hG1), bC_t (ev_vpop (h := h + 1) hG1 (by rw [rdf (by decide)]; exact hs.2.1) hh), rdw (show (119 : Nat) ≠ 117 by decide), bnd_t, if_neg (show ¬ nI 72 = (70 : Int32) by decide), if_neg (show ¬ nI 72 = (71 : Int32) by decide), if_pos (show nI 72 = (72 : Int32) by decide), bC_t (ev_vpop (h := h) hGa rds (by omega)), rdw (show (119 : Nat) ≠ 117 by decide), rdw (show (119 : Nat) ≠ 117 by decide), bnd_t, ev_clamp hGb rds (by omega)]
  · have := hs.2.2
    refine ⟨by unfold psA; repeat (first | exact same.rf | refine same.sD ?_ (by unfold EXA; omega)), ⟨?_, ?_, ?_⟩, ?_, ?_⟩ <;> simp [psA, sD_D, up2, this]
theorem op_73 {A : Hp} {pc h : Nat}  (h0 : VS0 A p wo inp cs) (hs : CS A pc (h + 2)) (hpc : pc < cs) (hp : p ≠ 117) (hh : h + 1 < 160) (hc : A.D (p + 191) pc = nI 73) : ∃ v : Int64, v.toInt = rhe ((A.D 119 h).toInt * (A.D 119 (h + 1)).toInt) 65536 ∧ ∃ A2, VR N s pl 1 A A2 ∧ VO A A2 h (pc + 1) (clp v) := by
  have hG1 : Gr (A.sD 117 12 (nI (pc + 1))) := h0.1
  have hG2 : Gr ((A.sD 117 12 (nI (pc + 1))).sD 117 12 (nI (pc + 2))) := h0.1
  have hGa : Gr ((A.sD 117 12 (nI (pc + 1))).sD 117 6 (nI (h + 1))) := h0.1
  have hGb : Gr (((A.sD 117 12 (nI (pc + 1))).sD 117 6 (nI (h + 1))).sD 117 6 (nI h)) := h0.1
  have hm := m32 (A.D 119 h) (A.D 119 (h + 1))
  have em := mu64 (A.D 119 h) (A.D 119 (h + 1))
  obtain ⟨v, v1, v2⟩ := ev_rnd20 (N := N) (H := ((A.sD 117 12 (nI (pc + 1))).sD 117 6 (nI (h + 1))).sD 117 6 (nI h)) (x := (A.D 119 h).toInt64 * (A.D 119 (h + 1)).toInt64) (y := 65536) (w := (A.D 119 h).toInt64 * (A.D 119 (h + 1)).toInt64) (by omega) (by omega) (by decide) (by decide) (by decide)
  rw [em] at v1
  refine ⟨v, v1, ?_⟩
  refine VR.op (z := ()) h0 hs (by omega) hp hc (by decide) (by decide) (A2 := psA (((A.sD 117 12 (nI (pc + 1))).sD 117 6 (nI (h + 1))).sD 117 6 (nI h)) h (clp v)) ?_ ?_
  · rw [vOp7 (by decide)]
    unfold F_Row_fixes
    rw [ck_t (rS_117 hG1), bC_t (ev_vpop (h := h + 1) hG1 (by rw [rdf (by decide)]; exact hs.2.1) hh), rdw (show (119 : Nat) ≠ 117 by decide), bnd_t, if_neg (show ¬ nI 73 = (70 : Int32) by decide), if_neg (show ¬ nI 73 = (71 : Int32) by decide), if_neg (show ¬ nI 73 = (72 : Int32) by decide), if_pos (show nI 73 = (73 : Int32) by decide), bC_t (ev_vpop (h := h) hGa rds (by omega)), rdw (show (119 : Nat) ≠ 117 by decide), rdw (show (119 : Nat) ≠ 117 by decide)]
    unfold F_Row_rounded
    rw [if_neg (show ¬ lg_cmp (65536 : Int64) 0 = 0 by decide), if_pos (show (0 : Int32) ≤ lg_cmp (65536 : Int64) 0 by decide), bC_t v2, ev_clamp hGb rds (by omega)]
  · have := hs.2.2
    refine ⟨by unfold psA; repeat (first | exact same.rf | refine same.sD ?_ (by unfold EXA; omega)), ⟨?_, ?_, ?_⟩, ?_, ?_⟩ <;> simp [psA, sD_D, up2, this]
theorem op_74 {A : Hp} {pc h : Nat} (hz : ¬ A.D 119 (h + 1) = 0) (h0 : VS0 A p wo inp cs) (hs : CS A pc (h + 2)) (hpc : pc < cs) (hp : p ≠ 117) (hh : h + 1 < 160) (hc : A.D (p + 191) pc = nI 74) : ∃ v : Int64, v.toInt = rhe (if (A.D 119 (h + 1)).toInt < 0 then -((A.D 119 h).toInt * 65536) else (A.D 119 h).toInt * 65536) (A.D 119 (h + 1)).toInt.natAbs ∧ ∃ A2, VR N s pl 1 A A2 ∧ VO A A2 h (pc + 1) (clp v) := by
  have hG1 : Gr (A.sD 117 12 (nI (pc + 1))) := h0.1
  have hG2 : Gr ((A.sD 117 12 (nI (pc + 1))).sD 117 12 (nI (pc + 2))) := h0.1
  have hGa : Gr ((A.sD 117 12 (nI (pc + 1))).sD 117 6 (nI (h + 1))) := h0.1
  have hGb : Gr (((A.sD 117 12 (nI (pc + 1))).sD 117 6 (nI (h + 1))).sD 117 6 (nI h)) := h0.1
  have hGc : Gr ((((A.sD 117 12 (nI (pc + 1))).sD 117 6 (nI (h + 1))).sD 117 6 (nI h)).sD 117 16 0) := h0.1
  have hx := b32 (A.D 119 h)
  have hy := b32 (A.D 119 (h + 1))
  have e65 : (65536 : Int64).toInt = 65536 := rfl
  have e0 : (0 : Int64).toInt = 0 := rfl
  have hy0 : (A.D 119 (h + 1)).toInt ≠ 0 := fun z => hz (Int32.toInt_inj.mp z)
  have em : ((A.D 119 h).toInt64 * (65536 : Int64)).toInt = (A.D 119 h).toInt * 65536 := by
    rw [Int64.toInt_mul, t64, e65]
    exact bmq (by omega) (by omega)
  have en : (-((A.D 119 h).toInt64 * (65536 : Int64))).toInt = -((A.D 119 h).toInt * 65536) := by
    rw [Int64.toInt_neg, em]
    exact bmq (by omega) (by omega)
  have yz : ¬ lg_cmp (A.D 119 (h + 1)).toInt64 0 = 0 := fun z => hy0 (by have := lgz.mp z; rw [← t64, this]; rfl)
  have rn : ∃ v : Int64, v.toInt = rhe (if (A.D 119 (h + 1)).toInt < 0 then -((A.D 119 h).toInt * 65536) else (A.D 119 h).toInt * 65536) (A.D 119 (h + 1)).toInt.natAbs ∧ F_Row_rounded N ((A.D 119 h).toInt64 * (65536 : Int64)) (A.D 119 (h + 1)).toInt64 ((((A.sD 117 12 (nI (pc + 1))).sD 117 6 (nI (h + 1))).sD 117 6 (nI h)).sD 117 16 0) = some (v, (((A.sD 117 12 (nI (pc + 1))).sD 117 6 (nI (h + 1))).sD 117 6 (nI h)).sD 117 16 0) := by
    unfold F_Row_rounded
    rw [if_neg yz]
    by_cases q : (A.D 119 (h + 1)).toInt64 < 0
    · rw [if_neg (fun z => lg_ge.mp z q)]
      rw [Int64.lt_iff_toInt_lt, t64, e0] at q
      obtain ⟨v, v1, v2⟩ := ev_rnd20 (N := N) (H := (((A.sD 117 12 (nI (pc + 1))).sD 117 6 (nI (h + 1))).sD 117 6 (nI h)).sD 117 16 0) (x := (A.D 119 h).toInt64 * (65536 : Int64)) (y := (A.D 119 (h + 1)).toInt64) (w := -((A.D 119 h).toInt64 * (65536 : Int64))) (by omega) (by omega) (by rw [t64]; exact hy0) (by rw [t64]; omega) (by rw [t64]; omega)
      rw [en, t64] at v1
      exact ⟨v, by rw [v1, if_pos q], v2⟩
    · rw [if_pos (lg_ge.mpr q)]
      rw [Int64.lt_iff_toInt_lt, t64, e0] at q
      obtain ⟨v, v1, v2⟩ := ev_rnd20 (N := N) (H := (((A.sD 117 12 (nI (pc + 1))).sD 117 6 (nI (h + 1))).sD 117 6 (nI h)).sD 117 16 0) (x := (A.D 119 h).toInt64 * (65536 : Int64)) (y := (A.D 119 (h + 1)).toInt64) (w := (A.D 119 h).toInt64 * (65536 : Int64)) (by omega) (by omega) (by rw [t64]; exact hy0) (by rw [t64]; omega) (by rw [t64]; omega)
      rw [em, t64] at v1
      exact ⟨v, by rw [v1, if_neg q], v2⟩
  obtain ⟨v, v1, v2⟩ := rn
  refine ⟨v, v1, ?_⟩
  refine VR.op (z := ()) h0 hs (by omega) hp hc (by decide) (by decide) (A2 := psA ((((A.sD 117 12 (nI (pc + 1))).sD 117 6 (nI (h + 1))).sD 117 6 (nI h)).sD 117 16 0) h (clp v)) ?_ ?_
  · rw [vOp7 (by decide)]
    unfold F_Row_fixes
    rw [ck_t (rS_117 hG1), bC_t (ev_vpop (h := h + 1) hG1 (by rw [rdf (by decide)]; exact hs.2.1) hh), rdw (show (119 : Nat) ≠ 117 by decide), bnd_t, if_neg (show ¬ nI 74 = (70 : Int32) by decide), if_neg (show ¬ nI 74 = (71 : Int32) by decide), if_neg (show ¬ nI 74 = (72 : Int32) by decide), if_neg (show ¬ nI 74 = (73 : Int32) by decide), if_pos (show nI 74 = (74 : Int32) by decide), bC_t (ev_vpop (h := h) hGa rds (by omega)), rdw (show (119 : Nat) ≠ 117 by decide), rdw (show (119 : Nat) ≠ 117 by decide), bnd_t, if_neg yz]
    unfold B_Row_fixes_124
    rw [ck_t (rS_117 hGb), bnd_t, bC_t v2, ev_clamp hGc (by rw [rdf (by decide), rds]) (by omega)]
  · refine ⟨by unfold psA; repeat (first | exact same.rf | refine same.sD ?_ (by unfold EXA; omega)), ⟨?_, ?_, ?_⟩, ?_, ?_⟩ <;> simp [psA, sD_D, up2]
theorem op_74f {A : Hp} {pc h : Nat} (hz : A.D 119 (h + 1) = 0) (h0 : VS0 A p wo inp cs) (hs : CS A pc (h + 2)) (hpc : pc < cs) (hp : p ≠ 117) (hh : h + 1 < 160) (hc : A.D (p + 191) pc = nI 74) : ∃ A2, VR N s pl 1 A A2 ∧ VF A A2 1 := by
  have hG1 : Gr (A.sD 117 12 (nI (pc + 1))) := h0.1
  have hG2 : Gr ((A.sD 117 12 (nI (pc + 1))).sD 117 12 (nI (pc + 2))) := h0.1
  have hGa : Gr ((A.sD 117 12 (nI (pc + 1))).sD 117 6 (nI (h + 1))) := h0.1
  have hGb : Gr (((A.sD 117 12 (nI (pc + 1))).sD 117 6 (nI (h + 1))).sD 117 6 (nI h)) := h0.1
  have hGc : Gr ((((A.sD 117 12 (nI (pc + 1))).sD 117 6 (nI (h + 1))).sD 117 6 (nI h)).sD 117 16 1) := h0.1
  have yz : lg_cmp (A.D 119 (h + 1)).toInt64 0 = 0 := by rw [hz]; decide
  refine VR.fl (z := ()) h0 hs (by omega) hp hc (by decide) (by decide) (A2 := psA ((((A.sD 117 12 (nI (pc + 1))).sD 117 6 (nI (h + 1))).sD 117 6 (nI h)).sD 117 16 1) h (clp 0)) ?_ ?_
  · rw [vOp7 (by decide)]
    unfold F_Row_fixes
    rw [ck_t (rS_117 hG1), bC_t (ev_vpop (h := h + 1) hG1 (by rw [rdf (by decide)]; exact hs.2.1) hh), rdw (show (119 : Nat) ≠ 117 by decide), bnd_t, if_neg (show ¬ nI 74 = (70 : Int32) by decide), if_neg (show ¬ nI 74 = (71 : Int32) by decide), if_neg (show ¬ nI 74 = (72 : Int32) by decide), if_neg (show ¬ nI 74 = (73 : Int32) by decide), if_pos (show nI 74 = (74 : Int32) by decide), bC_t (ev_vpop (h := h) hGa rds (by omega)), rdw (show (119 : Nat) ≠ 117 by decide), rdw (show (119 : Nat) ≠ 117 by decide), bnd_t, if_pos yz]
    unfold B_Row_fixes_124 F_Row_rounded
    rw [ck_t (rS_117 hGb), bnd_t, if_pos yz, bC_v, ev_clamp hGc (by rw [rdf (by decide), rds]) (by omega)]
  · refine ⟨by unfold psA; repeat (first | exact same.rf | refine same.sD ?_ (by unfold EXA; omega)), ?_⟩ <;> simp [psA, sD_D, up2]
theorem op_75 {A : Hp} {pc h : Nat} {p0 : Nat} {B : Hp} (hx : (0 : Int32) ≤ A.D 119 h) (hN : 40 ≤ N) (h0 : VS0 A p wo inp cs) (hs : CS A pc (h + 1)) (hpc : pc < cs) (hp : p ≠ 117) (hh : h < 160) (hc : A.D (p + 191) pc = nI 75) : ∃ v : Int32, F_MRunner_root N p0 (A.D 119 h) B = some (v, B) ∧ ∃ A2, VR N s pl 1 A A2 ∧ VO A A2 h (pc + 1) v := by
  have hG1 : Gr (A.sD 117 12 (nI (pc + 1))) := h0.1
  have hG2 : Gr ((A.sD 117 12 (nI (pc + 1))).sD 117 12 (nI (pc + 2))) := h0.1
  have hGp : Gr ((A.sD 117 12 (nI (pc + 1))).sD 117 6 (nI h)) := h0.1
  have hGc : Gr (((A.sD 117 12 (nI (pc + 1))).sD 117 6 (nI h)).sD 117 16 0) := h0.1
  obtain ⟨v, v1, v2⟩ := ev_root (N := N) (p0 := p0) (x := A.D 119 h) (H := ((A.sD 117 12 (nI (pc + 1))).sD 117 6 (nI h)).sD 117 16 0) (B := B) hx hN
  have e0 : (0 : Int64).toInt = 0 := rfl
  have i0 : (0 : Int32).toInt = 0 := rfl
  have xq : (0 : Int32) ≤ lg_cmp (A.D 119 h).toInt64 0 := lg_ge.mpr (by
    rw [Int32.le_iff_toInt_le, i0] at hx
    rw [Int64.lt_iff_toInt_lt, t64, e0]
    omega)
  refine ⟨clp v, v2, ?_⟩
  refine VR.op (z := ()) h0 hs (by omega) hp hc (by decide) (by decide) (A2 := psA (((A.sD 117 12 (nI (pc + 1))).sD 117 6 (nI h)).sD 117 16 0) h (clp v)) ?_ ?_
  · rw [vOp7 (by decide)]
    unfold F_Row_fixes
    rw [ck_t (rS_117 hG1), bC_t (ev_vpop (h := h) hG1 (by rw [rdf (by decide)]; exact hs.2.1) hh), rdw (show (119 : Nat) ≠ 117 by decide), bnd_t, if_neg (show ¬ nI 75 = (70 : Int32) by decide), if_neg (show ¬ nI 75 = (71 : Int32) by decide), if_neg (show ¬ nI 75 = (72 : Int32) by decide), if_neg (show ¬ nI 75 = (73 : Int32) by decide), if_neg (show ¬ nI 75 = (74 : Int32) by decide), if_pos (show nI 75 = (75 : Int32) by decide), if_pos xq]
    unfold B_Row_fixes_150
    rw [ck_t (rS_117 hGp), bnd_t, bC_t v1, ev_clamp hGc (by rw [rdf (by decide), rds]) hh]
  · refine ⟨by unfold psA; repeat (first | exact same.rf | refine same.sD ?_ (by unfold EXA; omega)), ⟨?_, ?_, ?_⟩, ?_, ?_⟩ <;> simp [psA, sD_D, up2]
theorem op_75f {A : Hp} {pc h : Nat} (hx : ¬ (0 : Int32) ≤ A.D 119 h) (hN : 40 ≤ N) (h0 : VS0 A p wo inp cs) (hs : CS A pc (h + 1)) (hpc : pc < cs) (hp : p ≠ 117) (hh : h < 160) (hc : A.D (p + 191) pc = nI 75) : ∃ A2, VR N s pl 1 A A2 ∧ VF A A2 2 := by
  have hG1 : Gr (A.sD 117 12 (nI (pc + 1))) := h0.1
  have hG2 : Gr ((A.sD 117 12 (nI (pc + 1))).sD 117 12 (nI (pc + 2))) := h0.1
  have hGp : Gr ((A.sD 117 12 (nI (pc + 1))).sD 117 6 (nI h)) := h0.1
  have hGc : Gr (((A.sD 117 12 (nI (pc + 1))).sD 117 6 (nI h)).sD 117 16 2) := h0.1
  obtain ⟨v, v1⟩ := ev_rootC (N := N) (z := (A.D 119 h).toInt64 * (65536 : Int64)) (H := ((A.sD 117 12 (nI (pc + 1))).sD 117 6 (nI h)).sD 117 16 2) 23 (by decide) N 0 (by omega)
  have e0 : (0 : Int64).toInt = 0 := rfl
  have i0 : (0 : Int32).toInt = 0 := rfl
  have xq : ¬ (0 : Int32) ≤ lg_cmp (A.D 119 h).toInt64 0 := fun z => lg_ge.mp z (by
    rw [Int32.le_iff_toInt_le, i0] at hx
    rw [Int64.lt_iff_toInt_lt, t64, e0]
    omega)
  have v2 : F_Row_rootOf N ((A.D 119 h).toInt64 * (65536 : Int64)) (((A.sD 117 12 (nI (pc + 1))).sD 117 6 (nI h)).sD 117 16 2) = some (v, ((A.sD 117 12 (nI (pc + 1))).sD 117 6 (nI h)).sD 117 16 2) := v1
  refine VR.fl (z := ()) h0 hs (by omega) hp hc (by decide) (by decide) (A2 := psA (((A.sD 117 12 (nI (pc + 1))).sD 117 6 (nI h)).sD 117 16 2) h (clp v)) ?_ ?_
  · rw [vOp7 (by decide)]
    unfold F_Row_fixes
    rw [ck_t (rS_117 hG1), bC_t (ev_vpop (h := h) hG1 (by rw [rdf (by decide)]; exact hs.2.1) hh), rdw (show (119 : Nat) ≠ 117 by decide), bnd_t, if_neg (show ¬ nI 75 = (70 : Int32) by decide), if_neg (show ¬ nI 75 = (71 : Int32) by decide), if_neg (show ¬ nI 75 = (72 : Int32) by decide), if_neg (show ¬ nI 75 = (73 : Int32) by decide), if_neg (show ¬ nI 75 = (74 : Int32) by decide), if_pos (show nI 75 = (75 : Int32) by decide), if_neg xq]
    unfold B_Row_fixes_150
    rw [ck_t (rS_117 hGp), bnd_t, bC_t v2, ev_clamp hGc (by rw [rdf (by decide), rds]) hh]
  · refine ⟨by unfold psA; repeat (first | exact same.rf | refine same.sD ?_ (by unfold EXA; omega)), ?_⟩ <;> simp [psA, sD_D, up2]
end Par
