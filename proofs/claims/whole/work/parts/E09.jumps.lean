/-! ===== jumps within expressions, and out of a condition ===== -/
/-- one value less: height h, nothing else -/
def VP (A A2 : Hp) (h pc2 : Nat) : Prop := same (EXA h) A A2 ∧ CS A2 pc2 h ∧ A2.D 117 14 = A.D 117 14
section Par
variable {N p wo inp cs : Nat} {s pl : Int32}
theorem VR.opP {A A2 : Hp} {pc c h h2 pc2 : Nat} {z : Unit} (h0 : VS0 A p wo inp cs) (hs : CS A pc h) (hpc : pc < cs) (hp : p ≠ 117) (hc : A.D (p + 191) pc = nI c) (h1 : 1 ≤ c) (h2' : c < 100) (hop : vOp N c (A.sD 117 12 (nI (pc + 1))) = some (z, A2)) (hv : VP A A2 h2 pc2) : ∃ A2, VR N s pl 1 A A2 ∧ VP A A2 h2 pc2 :=
  ⟨A2, VR.one h0 hs.1 hpc hp hs.2.2 hc h1 h2' hop (hv.1.gr h0.1), hv⟩
theorem op_4k {A : Hp} {pc h : Nat} {t : Nat} (hct : A.D (p + 191) (pc + 1) = nI t) (hk : A.D 119 h = 0) (h0 : VS0 A p wo inp cs) (hs : CS A pc (h + 1)) (hpc : pc + 1 < cs) (hp : p ≠ 117) (hh : h < 160) (hc : A.D (p + 191) pc = nI 4) : ∃ A2, VR N s pl 1 A A2 ∧ VO A A2 h t (A.D 119 h) := by
  have hG1 : Gr (A.sD 117 12 (nI (pc + 1))) := h0.1
  have hG2 : Gr ((A.sD 117 12 (nI (pc + 1))).sD 117 12 (nI (pc + 2))) := h0.1
  have hGq : Gr (((A.sD 117 12 (nI (pc + 1))).sD 117 12 (nI (pc + 2))).sD 117 6 (nI h)) := h0.1
  refine VR.op (z := ()) h0 hs (by omega) hp hc (by decide) (by decide) (A2 := (psA (((A.sD 117 12 (nI (pc + 1))).sD 117 12 (nI (pc + 2))).sD 117 6 (nI h)) h (A.D 119 h)).sD 117 12 (nI t)) ?_ ?_
  · rw [vOp0 (by decide)]
    unfold F_Row_control
    rw [if_neg (show ¬ nI 4 = (1 : Int32) by decide), if_neg (show ¬ nI 4 = (11 : Int32) by decide), ck_t (rS_117 hG1), bC_t (ev_arg h0 hpc hp), hct]
    unfold B_Row_control_19
    rw [if_neg (show ¬ nI 4 = (1 : Int32) by decide), if_neg (show ¬ nI 4 = (2 : Int32) by decide), if_neg (show ¬ nI 4 = (3 : Int32) by decide), if_pos (show nI 4 = (4 : Int32) by decide), ck_t (rS_117 hG2), bC_t (ev_vpop (h := h) hG2 (by rw [rdf (by decide), rdf (by decide)]; exact hs.2.1) hh), rdw (show (119 : Nat) ≠ 117 by decide), rdw (show (119 : Nat) ≠ 117 by decide)]
    rw [if_pos hk]
    unfold B_Row_control_140
    rw [if_neg (show ¬ nI 4 = (5 : Int32) by decide)]
    unfold B_Row_control_150
    rw [if_pos rfl, ck_t (rS_117 hGq), bC_t (ev_vpush (h := h) hGq rds hh), bnd_t]
  · have := hs.2.2
    refine ⟨by unfold psA; repeat (first | exact same.rf | refine same.sD ?_ (by unfold EXA; omega)), ⟨?_, ?_, ?_⟩, ?_, ?_⟩ <;> simp [psA, sD_D, up2, this]
theorem op_4d {A : Hp} {pc h : Nat} {t : Nat} (hct : A.D (p + 191) (pc + 1) = nI t) (hk : ¬ A.D 119 h = 0) (h0 : VS0 A p wo inp cs) (hs : CS A pc (h + 1)) (hpc : pc + 1 < cs) (hp : p ≠ 117) (hh : h < 160) (hc : A.D (p + 191) pc = nI 4) : ∃ A2, VR N s pl 1 A A2 ∧ VP A A2 h (pc + 2) := by
  have hG1 : Gr (A.sD 117 12 (nI (pc + 1))) := h0.1
  have hG2 : Gr ((A.sD 117 12 (nI (pc + 1))).sD 117 12 (nI (pc + 2))) := h0.1
  have hGq : Gr (((A.sD 117 12 (nI (pc + 1))).sD 117 12 (nI (pc + 2))).sD 117 6 (nI h)) := h0.1
  refine VR.opP (z := ()) h0 hs (by omega) hp hc (by decide) (by decide) (A2 := ((A.sD 117 12 (nI (pc + 1))).sD 117 12 (nI (pc + 2))).sD 117 6 (nI h)) ?_ ?_
  · rw [vOp0 (by decide)]
    unfold F_Row_control
    rw [if_neg (show ¬ nI 4 = (1 : Int32) by decide), if_neg (show ¬ nI 4 = (11 : Int32) by decide), ck_t (rS_117 hG1), bC_t (ev_arg h0 hpc hp), hct]
    unfold B_Row_control_19
    rw [if_neg (show ¬ nI 4 = (1 : Int32) by decide), if_neg (show ¬ nI 4 = (2 : Int32) by decide), if_neg (show ¬ nI 4 = (3 : Int32) by decide), if_pos (show nI 4 = (4 : Int32) by decide), ck_t (rS_117 hG2), bC_t (ev_vpop (h := h) hG2 (by rw [rdf (by decide), rdf (by decide)]; exact hs.2.1) hh), rdw (show (119 : Nat) ≠ 117 by decide), rdw (show (119 : Nat) ≠ 117 by decide)]
    rw [if_neg hk]
    unfold B_Row_control_140
    rw [if_neg (show ¬ nI 4 = (5 : Int32) by decide)]
    unfold B_Row_control_150
    rw [if_neg (by decide)]
  · have := hs.2.2
    refine ⟨by repeat (first | exact same.rf | refine same.sD ?_ (by unfold EXA; omega)), ⟨?_, ?_, ?_⟩, ?_⟩ <;> simp [psA, sD_D, up2, this]
theorem op_5k {A : Hp} {pc h : Nat} {t : Nat} (hct : A.D (p + 191) (pc + 1) = nI t) (hk : ¬ A.D 119 h = 0) (h0 : VS0 A p wo inp cs) (hs : CS A pc (h + 1)) (hpc : pc + 1 < cs) (hp : p ≠ 117) (hh : h < 160) (hc : A.D (p + 191) pc = nI 5) : ∃ A2, VR N s pl 1 A A2 ∧ VO A A2 h t (A.D 119 h) := by
  have hG1 : Gr (A.sD 117 12 (nI (pc + 1))) := h0.1
  have hG2 : Gr ((A.sD 117 12 (nI (pc + 1))).sD 117 12 (nI (pc + 2))) := h0.1
  have hGq : Gr (((A.sD 117 12 (nI (pc + 1))).sD 117 12 (nI (pc + 2))).sD 117 6 (nI h)) := h0.1
  refine VR.op (z := ()) h0 hs (by omega) hp hc (by decide) (by decide) (A2 := (psA (((A.sD 117 12 (nI (pc + 1))).sD 117 12 (nI (pc + 2))).sD 117 6 (nI h)) h (A.D 119 h)).sD 117 12 (nI t)) ?_ ?_
  · rw [vOp0 (by decide)]
    unfold F_Row_control
    rw [if_neg (show ¬ nI 5 = (1 : Int32) by decide), if_neg (show ¬ nI 5 = (11 : Int32) by decide), ck_t (rS_117 hG1), bC_t (ev_arg h0 hpc hp), hct]
    unfold B_Row_control_19
    rw [if_neg (show ¬ nI 5 = (1 : Int32) by decide), if_neg (show ¬ nI 5 = (2 : Int32) by decide), if_neg (show ¬ nI 5 = (3 : Int32) by decide), if_neg (show ¬ nI 5 = (4 : Int32) by decide), if_pos (show nI 5 = (5 : Int32) by decide), ck_t (rS_117 hG2), bC_t (ev_vpop (h := h) hG2 (by rw [rdf (by decide), rdf (by decide)]; exact hs.2.1) hh), rdw (show (119 : Nat) ≠ 117 by decide), rdw (show (119 : Nat) ≠ 117 by decide)]
    rw [if_neg hk]
    unfold B_Row_control_140
    rw [if_pos (show nI 5 = (5 : Int32) by decide)]
    unfold B_Row_control_150
    rw [if_pos rfl, ck_t (rS_117 hGq), bC_t (ev_vpush (h := h) hGq rds hh), bnd_t]
  · have := hs.2.2
    refine ⟨by unfold psA; repeat (first | exact same.rf | refine same.sD ?_ (by unfold EXA; omega)), ⟨?_, ?_, ?_⟩, ?_, ?_⟩ <;> simp [psA, sD_D, up2, this]
theorem op_5d {A : Hp} {pc h : Nat} {t : Nat} (hct : A.D (p + 191) (pc + 1) = nI t) (hk : A.D 119 h = 0) (h0 : VS0 A p wo inp cs) (hs : CS A pc (h + 1)) (hpc : pc + 1 < cs) (hp : p ≠ 117) (hh : h < 160) (hc : A.D (p + 191) pc = nI 5) : ∃ A2, VR N s pl 1 A A2 ∧ VP A A2 h (pc + 2) := by
  have hG1 : Gr (A.sD 117 12 (nI (pc + 1))) := h0.1
  have hG2 : Gr ((A.sD 117 12 (nI (pc + 1))).sD 117 12 (nI (pc + 2))) := h0.1
  have hGq : Gr (((A.sD 117 12 (nI (pc + 1))).sD 117 12 (nI (pc + 2))).sD 117 6 (nI h)) := h0.1
  refine VR.opP (z := ()) h0 hs (by omega) hp hc (by decide) (by decide) (A2 := ((A.sD 117 12 (nI (pc + 1))).sD 117 12 (nI (pc + 2))).sD 117 6 (nI h)) ?_ ?_
  · rw [vOp0 (by decide)]
    unfold F_Row_control
    rw [if_neg (show ¬ nI 5 = (1 : Int32) by decide), if_neg (show ¬ nI 5 = (11 : Int32) by decide), ck_t (rS_117 hG1), bC_t (ev_arg h0 hpc hp), hct]
    unfold B_Row_control_19
    rw [if_neg (show ¬ nI 5 = (1 : Int32) by decide), if_neg (show ¬ nI 5 = (2 : Int32) by decide), if_neg (show ¬ nI 5 = (3 : Int32) by decide), if_neg (show ¬ nI 5 = (4 : Int32) by decide), if_pos (show nI 5 = (5 : Int32) by decide), ck_t (rS_117 hG2), bC_t (ev_vpop (h := h) hG2 (by rw [rdf (by decide), rdf (by decide)]; exact hs.2.1) hh), rdw (show (119 : Nat) ≠ 117 by decide), rdw (show (119 : Nat) ≠ 117 by decide)]
    rw [if_pos hk]
    unfold B_Row_control_140
    rw [if_pos (show nI 5 = (5 : Int32) by decide)]
    unfold B_Row_control_150
    rw [if_neg (by decide)]
  · have := hs.2.2
    refine ⟨by repeat (first | exact same.rf | refine same.sD ?_ (by unfold EXA; omega)), ⟨?_, ?_, ?_⟩, ?_⟩ <;> simp [psA, sD_D, up2, this]
theorem op_3j {A : Hp} {pc h : Nat} {t : Nat} (hct : A.D (p + 191) (pc + 1) = nI t) (hk : A.D 119 h = 0) (h0 : VS0 A p wo inp cs) (hs : CS A pc (h + 1)) (hpc : pc + 1 < cs) (hp : p ≠ 117) (hh : h < 160) (hc : A.D (p + 191) pc = nI 3) : ∃ A2, VR N s pl 1 A A2 ∧ VP A A2 h t := by
  have hG1 : Gr (A.sD 117 12 (nI (pc + 1))) := h0.1
  have hG2 : Gr ((A.sD 117 12 (nI (pc + 1))).sD 117 12 (nI (pc + 2))) := h0.1
  have hGq : Gr (((A.sD 117 12 (nI (pc + 1))).sD 117 12 (nI (pc + 2))).sD 117 6 (nI h)) := h0.1
  refine VR.opP (z := ()) h0 hs (by omega) hp hc (by decide) (by decide) (A2 := (((A.sD 117 12 (nI (pc + 1))).sD 117 12 (nI (pc + 2))).sD 117 6 (nI h)).sD 117 12 (nI t)) ?_ ?_
  · rw [vOp0 (by decide)]
    unfold F_Row_control
    rw [if_neg (show ¬ nI 3 = (1 : Int32) by decide), if_neg (show ¬ nI 3 = (11 : Int32) by decide), ck_t (rS_117 hG1), bC_t (ev_arg h0 hpc hp), hct]
    unfold B_Row_control_19
    rw [if_neg (show ¬ nI 3 = (1 : Int32) by decide), if_neg (show ¬ nI 3 = (2 : Int32) by decide), if_pos (show nI 3 = (3 : Int32) by decide), ck_t (rS_117 hG2), bC_t (ev_vpop (h := h) hG2 (by rw [rdf (by decide), rdf (by decide)]; exact hs.2.1) hh), rdw (show (119 : Nat) ≠ 117 by decide), rdw (show (119 : Nat) ≠ 117 by decide), if_pos hk, bnd_t]
  · have := hs.2.2
    refine ⟨by repeat (first | exact same.rf | refine same.sD ?_ (by unfold EXA; omega)), ⟨?_, ?_, ?_⟩, ?_⟩ <;> simp [psA, sD_D, up2, this]
theorem op_3n {A : Hp} {pc h : Nat} {t : Nat} (hct : A.D (p + 191) (pc + 1) = nI t) (hk : ¬ A.D 119 h = 0) (h0 : VS0 A p wo inp cs) (hs : CS A pc (h + 1)) (hpc : pc + 1 < cs) (hp : p ≠ 117) (hh : h < 160) (hc : A.D (p + 191) pc = nI 3) : ∃ A2, VR N s pl 1 A A2 ∧ VP A A2 h (pc + 2) := by
  have hG1 : Gr (A.sD 117 12 (nI (pc + 1))) := h0.1
  have hG2 : Gr ((A.sD 117 12 (nI (pc + 1))).sD 117 12 (nI (pc + 2))) := h0.1
  have hGq : Gr (((A.sD 117 12 (nI (pc + 1))).sD 117 12 (nI (pc + 2))).sD 117 6 (nI h)) := h0.1
  refine VR.opP (z := ()) h0 hs (by omega) hp hc (by decide) (by decide) (A2 := ((A.sD 117 12 (nI (pc + 1))).sD 117 12 (nI (pc + 2))).sD 117 6 (nI h)) ?_ ?_
  · rw [vOp0 (by decide)]
    unfold F_Row_control
    rw [if_neg (show ¬ nI 3 = (1 : Int32) by decide), if_neg (show ¬ nI 3 = (11 : Int32) by decide), ck_t (rS_117 hG1), bC_t (ev_arg h0 hpc hp), hct]
    unfold B_Row_control_19
    rw [if_neg (show ¬ nI 3 = (1 : Int32) by decide), if_neg (show ¬ nI 3 = (2 : Int32) by decide), if_pos (show nI 3 = (3 : Int32) by decide), ck_t (rS_117 hG2), bC_t (ev_vpop (h := h) hG2 (by rw [rdf (by decide), rdf (by decide)]; exact hs.2.1) hh), rdw (show (119 : Nat) ≠ 117 by decide), rdw (show (119 : Nat) ≠ 117 by decide), if_neg hk]
  · have := hs.2.2
    refine ⟨by repeat (first | exact same.rf | refine same.sD ?_ (by unfold EXA; omega)), ⟨?_, ?_, ?_⟩, ?_⟩ <;> simp [psA, sD_D, up2, this]
theorem op_2j {A : Hp} {pc h : Nat} {t : Nat} (hct : A.D (p + 191) (pc + 1) = nI t) (h0 : VS0 A p wo inp cs) (hs : CS A pc h) (hpc : pc + 1 < cs) (hp : p ≠ 117)  (hc : A.D (p + 191) pc = nI 2) : ∃ A2, VR N s pl 1 A A2 ∧ VP A A2 h t := by
  have hG1 : Gr (A.sD 117 12 (nI (pc + 1))) := h0.1
  have hG2 : Gr ((A.sD 117 12 (nI (pc + 1))).sD 117 12 (nI (pc + 2))) := h0.1
  refine VR.opP (z := ()) h0 hs (by omega) hp hc (by decide) (by decide) (A2 := ((A.sD 117 12 (nI (pc + 1))).sD 117 12 (nI (pc + 2))).sD 117 12 (nI t)) ?_ ?_
  · rw [vOp0 (by decide)]
    unfold F_Row_control
    rw [if_neg (show ¬ nI 2 = (1 : Int32) by decide), if_neg (show ¬ nI 2 = (11 : Int32) by decide), ck_t (rS_117 hG1), bC_t (ev_arg h0 hpc hp), hct]
    unfold B_Row_control_19
    rw [if_neg (show ¬ nI 2 = (1 : Int32) by decide), if_pos (show nI 2 = (2 : Int32) by decide), ck_t (rS_117 hG2), bnd_t]
  · have := hs.2.2
    have h6 := hs.2.1
    refine ⟨by repeat (first | exact same.rf | refine same.sD ?_ (by unfold EXA; omega)), ⟨?_, ?_, ?_⟩, ?_⟩ <;> simp [psA, sD_D, up2, this, h6]
end Par
