/-! ===== operations of statements ===== -/
/-- pc, height, and one place more -/
def EXO (b x a f : Nat) : Prop := (a = 117 ∧ (f = 6 ∨ f = 12)) ∨ (a = b ∧ f = x)
section Par
variable {N p wo inp cs : Nat} {s pl : Int32}
theorem ev_write {A : Hp} {q m wd : Nat} {v : Int32} (h : isW A wo) (hw : A.D wo 10 = nI wd) (hd : wd ≤ 48) (hq : q < 256) (hm : m < 48) : F_World_write N wo (nI q) (nI m) v A = some ((), A.sD (wo + 3) (q * wd + m) v) := by
  have hb : q * wd + m < 12288 := by
    have : q * wd ≤ 255 * 48 := Nat.mul_le_mul (by omega) hd
    omega
  unfold F_World_write
  rw [ck_t (WS h), bnd_t, hw, bnd_t, show nI q * nI wd + nI m = nI (q * wd + m) from nI_ma q wd m, if_neg (show ¬ nI q < 0 from nI_nlt (b := 0) (by omega) (by omega)), if_neg (show ¬ nI (q * wd + m) < 0 from nI_nlt (b := 0) (by omega) (by omega)), rf_t (WP_11 h), ar_t (WA_11 h), show Int32.ofNat 12288 = nI 12288 from rfl, if_neg (show ¬ nI 12288 ≤ nI (q * wd + m) from nI_ge hb (by decide)), rf_t (WP_11 h), ar_t (WA_11 h), wrI hb (by decide)]
theorem op_1 {A : Hp} {pc h : Nat} {st : Nat} (h13 : A.D 117 13 = nI st) (hst : st < 120) (h0 : VS0 A p wo inp cs) (hs : CS A pc h) (hpc : pc < cs) (hp : p ≠ 117)  (hc : A.D (p + 191) pc = nI 1) : ∃ A2, VR N s pl 1 A A2 ∧ same (EXO 117 13) A A2 ∧ CS A2 (pc + 1) h ∧ A2.D 117 13 = nI (st + 1) := by
  have hG1 : Gr (A.sD 117 12 (nI (pc + 1))) := h0.1
  have hG2 : Gr ((A.sD 117 12 (nI (pc + 1))).sD 117 12 (nI (pc + 2))) := h0.1
  have hop : vOp N 1 (A.sD 117 12 (nI (pc + 1))) = some ((), (A.sD 117 12 (nI (pc + 1))).sD 117 13 (nI (st + 1))) := by
    rw [vOp0 (by decide)]
    unfold F_Row_control
    rw [if_pos (show nI 1 = (1 : Int32) from rfl)]
    unfold B_Row_control_11 B_Row_control_19
    rw [if_pos (show nI 1 = (1 : Int32) from rfl), ck_t (rS_117 hG1), bnd_t, rdf (by decide), h13, nI_1, bnd_t, bnd_t, rds, if_pos (show nI (st + 1) ≤ (120 : Int32) from nI_le (b := 120) (by omega) (by decide))]
  have h16 := hs.2.2
  have h6 := hs.2.1
  have h12 := hs.1
  refine ⟨_, VR.one h0 hs.1 (by omega) hp hs.2.2 hc (by decide) (by decide) hop h0.1, by repeat (first | exact same.rf | refine same.sD ?_ (by unfold EXO; omega)), ⟨?_, ?_, ?_⟩, ?_⟩ <;> simp [sD_D, up2, h16, h6, h12]
theorem op_1f {A : Hp} {pc h : Nat} (h13 : A.D 117 13 = nI 120) (h0 : VS0 A p wo inp cs) (hs : CS A pc h) (hpc : pc < cs) (hp : p ≠ 117)  (hc : A.D (p + 191) pc = nI 1) : ∃ A2, VR N s pl 1 A A2 ∧ same (fun a f => a = 117 ∧ (f = 12 ∨ f = 13 ∨ f = 16)) A A2 ∧ A2.D 117 16 = 5 ∧ A2.D 117 13 = nI 121 := by
  have hG1 : Gr (A.sD 117 12 (nI (pc + 1))) := h0.1
  have hG2 : Gr ((A.sD 117 12 (nI (pc + 1))).sD 117 12 (nI (pc + 2))) := h0.1
  have hop : vOp N 1 (A.sD 117 12 (nI (pc + 1))) = some ((), ((A.sD 117 12 (nI (pc + 1))).sD 117 13 (nI 121)).sD 117 16 5) := by
    rw [vOp0 (by decide)]
    unfold F_Row_control
    rw [if_pos (show nI 1 = (1 : Int32) from rfl)]
    unfold B_Row_control_11 B_Row_control_19
    rw [if_pos (show nI 1 = (1 : Int32) from rfl), ck_t (rS_117 hG1), bnd_t, rdf (by decide), h13, nI_1, bnd_t, bnd_t, rds, if_neg (show ¬ nI (120 + 1) ≤ (120 : Int32) by decide), bnd_t]
  refine ⟨_, VR.one h0 hs.1 (by omega) hp hs.2.2 hc (by decide) (by decide) hop h0.1, by repeat (first | exact same.rf | refine same.sD ?_ ⟨rfl, by omega⟩), ?_, ?_⟩ <;> simp [sD_D, up2]
theorem op_11 {A : Hp} {pc h : Nat}  (h0 : VS0 A p wo inp cs) (hs : CS A pc h) (hpc : pc < cs) (hp : p ≠ 117)  (hc : A.D (p + 191) pc = nI 11) : ∃ A2, VR N s pl 1 A A2 ∧ same (fun a f => a = 117 ∧ (f = 12 ∨ f = 13 ∨ f = 16)) A A2 ∧ A2.D 117 16 = 4 := by
  have hG1 : Gr (A.sD 117 12 (nI (pc + 1))) := h0.1
  have hG2 : Gr ((A.sD 117 12 (nI (pc + 1))).sD 117 12 (nI (pc + 2))) := h0.1
  have hop : vOp N 11 (A.sD 117 12 (nI (pc + 1))) = some ((), (A.sD 117 12 (nI (pc + 1))).sD 117 16 4) := by
    rw [vOp0 (by decide)]
    unfold F_Row_control
    rw [if_neg (show ¬ nI 11 = (1 : Int32) by decide), if_pos (show nI 11 = (11 : Int32) from rfl)]
    unfold B_Row_control_11 B_Row_control_19
    rw [if_neg (show ¬ nI 11 = (1 : Int32) by decide), if_neg (show ¬ nI 11 = (2 : Int32) by decide), if_neg (show ¬ nI 11 = (3 : Int32) by decide), if_neg (show ¬ nI 11 = (4 : Int32) by decide), if_neg (show ¬ nI 11 = (5 : Int32) by decide), if_neg (show ¬ nI 11 = (6 : Int32) by decide), if_neg (show ¬ nI 11 = (7 : Int32) by decide), if_neg (show ¬ nI 11 = (8 : Int32) by decide), if_neg (show ¬ nI 11 = (9 : Int32) by decide), if_neg (show ¬ nI 11 = (10 : Int32) by decide), ck_t (rS_117 hG1), bnd_t]
  refine ⟨_, VR.one h0 hs.1 (by omega) hp hs.2.2 hc (by decide) (by decide) hop h0.1, by repeat (first | exact same.rf | refine same.sD ?_ ⟨rfl, by omega⟩), ?_⟩ <;> simp [sD_D, up2]
theorem op_6 {A : Hp} {pc h : Nat} {l : Nat} (hl : l < 21) (hcl : A.D (p + 191) (pc + 1) = nI l) (h0 : VS0 A p wo inp cs) (hs : CS A pc h) (hpc : pc + 1 < cs) (hp : p ≠ 117)  (hc : A.D (p + 191) pc = nI 6) : ∃ A2, VR N s pl 1 A A2 ∧ same (EXO 121 l) A A2 ∧ CS A2 (pc + 2) h ∧ A2.D 121 l = -1 := by
  have hG1 : Gr (A.sD 117 12 (nI (pc + 1))) := h0.1
  have hG2 : Gr ((A.sD 117 12 (nI (pc + 1))).sD 117 12 (nI (pc + 2))) := h0.1
  have hop : vOp N 6 (A.sD 117 12 (nI (pc + 1))) = some ((), ((A.sD 117 12 (nI (pc + 1))).sD 117 12 (nI (pc + 2))).sD 121 l (-1)) := by
    rw [vOp0 (by decide)]
    unfold F_Row_control
    rw [if_neg (show ¬ nI 6 = (1 : Int32) by decide), if_neg (show ¬ nI 6 = (11 : Int32) by decide), ck_t (rS_117 hG1), bC_t (ev_arg h0 (by omega) hp), hcl]
    unfold B_Row_control_19
    rw [if_neg (show ¬ nI 6 = (1 : Int32) by decide), if_neg (show ¬ nI 6 = (2 : Int32) by decide), if_neg (show ¬ nI 6 = (3 : Int32) by decide), if_neg (show ¬ nI 6 = (4 : Int32) by decide), if_neg (show ¬ nI 6 = (5 : Int32) by decide), if_pos (show nI 6 = (6 : Int32) by decide), ck_t (rS_117 hG2), rf_t (rP_117_8 hG2), ar_t (rA_117_8 hG2), wrI hl (by decide)]
  have h16 := hs.2.2
  have h6 := hs.2.1
  have h12 := hs.1
  refine ⟨_, VR.one h0 hs.1 (by omega) hp hs.2.2 hc (by decide) (by decide) hop h0.1, by repeat (first | exact same.rf | refine same.sD ?_ (by unfold EXO; omega)), ⟨?_, ?_, ?_⟩, ?_⟩ <;> simp [sD_D, up2, h16, h6, h12]
theorem op_7 {A : Hp} {pc h : Nat} {l : Nat} (hl : l < 21) (hcl : A.D (p + 191) (pc + 1) = nI l) (h0 : VS0 A p wo inp cs) (hs : CS A pc (h + 1)) (hpc : pc + 1 < cs) (hp : p ≠ 117) (hh : h < 160) (hc : A.D (p + 191) pc = nI 7) : ∃ A2, VR N s pl 1 A A2 ∧ same (EXO 122 l) A A2 ∧ CS A2 (pc + 2) h ∧ A2.D 122 l = A.D 119 h := by
  have hG1 : Gr (A.sD 117 12 (nI (pc + 1))) := h0.1
  have hG2 : Gr ((A.sD 117 12 (nI (pc + 1))).sD 117 12 (nI (pc + 2))) := h0.1
  have hGq : Gr (((A.sD 117 12 (nI (pc + 1))).sD 117 12 (nI (pc + 2))).sD 117 6 (nI h)) := h0.1
  have hop : vOp N 7 (A.sD 117 12 (nI (pc + 1))) = some ((), (((A.sD 117 12 (nI (pc + 1))).sD 117 12 (nI (pc + 2))).sD 117 6 (nI h)).sD 122 l (A.D 119 h)) := by
    rw [vOp0 (by decide)]
    unfold F_Row_control
    rw [if_neg (show ¬ nI 7 = (1 : Int32) by decide), if_neg (show ¬ nI 7 = (11 : Int32) by decide), ck_t (rS_117 hG1), bC_t (ev_arg h0 (by omega) hp), hcl]
    unfold B_Row_control_19
    rw [if_neg (show ¬ nI 7 = (1 : Int32) by decide), if_neg (show ¬ nI 7 = (2 : Int32) by decide), if_neg (show ¬ nI 7 = (3 : Int32) by decide), if_neg (show ¬ nI 7 = (4 : Int32) by decide), if_neg (show ¬ nI 7 = (5 : Int32) by decide), if_neg (show ¬ nI 7 = (6 : Int32) by decide), if_pos (show nI 7 = (7 : Int32) by decide), ck_t (rS_117 hG2), rf_t (rP_117_9 hG2), bC_t (ev_vpop (h := h) hG2 (by rw [rdf (by decide), rdf (by decide)]; exact hs.2.1) hh), rdw (show (119 : Nat) ≠ 117 by decide), rdw (show (119 : Nat) ≠ 117 by decide), ar_t (rA_117_9 hGq), wrI hl (by decide)]
  have h16 := hs.2.2
  have h6 := hs.2.1
  have h12 := hs.1
  refine ⟨_, VR.one h0 hs.1 (by omega) hp hs.2.2 hc (by decide) (by decide) hop h0.1, by repeat (first | exact same.rf | refine same.sD ?_ (by unfold EXO; omega)), ⟨?_, ?_, ?_⟩, ?_⟩ <;> simp [sD_D, up2, h16, h6, h12]
theorem op_34 {A : Hp} {pc h : Nat} {n : Nat} (hn : n < 12) (hcn : A.D (p + 191) (pc + 1) = nI n) (h0 : VS0 A p wo inp cs) (hs : CS A pc (h + 1)) (hpc : pc + 1 < cs) (hp : p ≠ 117) (hh : h < 160) (hc : A.D (p + 191) pc = nI 34) : ∃ A2, VR N s pl 1 A A2 ∧ same (EXO 120 n) A A2 ∧ CS A2 (pc + 2) h ∧ A2.D 120 n = A.D 119 h := by
  have hG1 : Gr (A.sD 117 12 (nI (pc + 1))) := h0.1
  have hG2 : Gr ((A.sD 117 12 (nI (pc + 1))).sD 117 12 (nI (pc + 2))) := h0.1
  have hGq : Gr (((A.sD 117 12 (nI (pc + 1))).sD 117 12 (nI (pc + 2))).sD 117 6 (nI h)) := h0.1
  have hop : vOp N 34 (A.sD 117 12 (nI (pc + 1))) = some ((), (((A.sD 117 12 (nI (pc + 1))).sD 117 12 (nI (pc + 2))).sD 117 6 (nI h)).sD 120 n (A.D 119 h)) := by
    rw [vOp3 (by decide) (by decide)]
    unfold F_Row_value
    rw [if_neg (show ¬ nI 34 = (30 : Int32) by decide), if_neg (show ¬ nI 34 = (31 : Int32) by decide), if_neg (show ¬ nI 34 = (32 : Int32) by decide), if_neg (show ¬ nI 34 = (33 : Int32) by decide), if_pos (show nI 34 = (34 : Int32) by decide), ck_t (rS_117 hG1), rf_t (rP_117_7 hG1), bC_t (ev_arg h0 (by omega) hp), hcn, bC_t (ev_vpop (h := h) hG2 (by rw [rdf (by decide), rdf (by decide)]; exact hs.2.1) hh), rdw (show (119 : Nat) ≠ 117 by decide), rdw (show (119 : Nat) ≠ 117 by decide), ar_t (rA_117_7 hGq), wrI hn (by decide)]
  have h16 := hs.2.2
  have h6 := hs.2.1
  have h12 := hs.1
  refine ⟨_, VR.one h0 hs.1 (by omega) hp hs.2.2 hc (by decide) (by decide) hop h0.1, by repeat (first | exact same.rf | refine same.sD ?_ (by unfold EXO; omega)), ⟨?_, ?_, ?_⟩, ?_⟩ <;> simp [sD_D, up2, h16, h6, h12]
theorem op_36 {A : Hp} {pc h : Nat} {q m wd : Nat} (h18 : A.D 117 18 = nI q) (hq : q < 256) (hw : A.D wo 10 = nI wd) (hd : wd ≤ 48) (hm : m < 48) (hcn : A.D (p + 191) (pc + 1) = nI m) (h0 : VS0 A p wo inp cs) (hs : CS A pc (h + 1)) (hpc : pc + 1 < cs) (hp : p ≠ 117) (hh : h < 160) (hc : A.D (p + 191) pc = nI 36) : ∃ A2, VR N s pl 1 A A2 ∧ same (EXO (wo + 3) (q * wd + m)) A A2 ∧ CS A2 (pc + 2) h ∧ A2.D (wo + 3) (q * wd + m) = A.D 119 h := by
  have hG1 : Gr (A.sD 117 12 (nI (pc + 1))) := h0.1
  have hG2 : Gr ((A.sD 117 12 (nI (pc + 1))).sD 117 12 (nI (pc + 2))) := h0.1
  have hGq : Gr (((A.sD 117 12 (nI (pc + 1))).sD 117 12 (nI (pc + 2))).sD 117 6 (nI h)) := h0.1
  have hWq : isW (((A.sD 117 12 (nI (pc + 1))).sD 117 12 (nI (pc + 2))).sD 117 6 (nI h)) wo := h0.2.2.1
  have w3' : ¬ 117 = wo + 3 := fun z => h0.w.2.2.2.1 z.symm
  have hop : vOp N 36 (A.sD 117 12 (nI (pc + 1))) = some ((), (((A.sD 117 12 (nI (pc + 1))).sD 117 12 (nI (pc + 2))).sD 117 6 (nI h)).sD (wo + 3) (q * wd + m) (A.D 119 h)) := by
    rw [vOp3 (by decide) (by decide)]
    unfold F_Row_value
    rw [if_neg (show ¬ nI 36 = (30 : Int32) by decide), if_neg (show ¬ nI 36 = (31 : Int32) by decide), if_neg (show ¬ nI 36 = (32 : Int32) by decide), if_neg (show ¬ nI 36 = (33 : Int32) by decide), if_neg (show ¬ nI 36 = (34 : Int32) by decide), if_neg (show ¬ nI 36 = (35 : Int32) by decide), if_pos (show nI 36 = (36 : Int32) by decide), ck_t (rS_117 hG1), sD_P, rf_t h0.2.2.2.2.1, bnd_t, rdf (by decide), h18, bC_t (ev_arg h0 (by omega) hp), hcn, bC_t (ev_vpop (h := h) hG2 (by rw [rdf (by decide), rdf (by decide)]; exact hs.2.1) hh), rdw (show (119 : Nat) ≠ 117 by decide), rdw (show (119 : Nat) ≠ 117 by decide), ck_t (WS hWq), bC_t (ev_write hWq (by rw [rdw h0.w.1, rdw h0.w.1, rdw h0.w.1]; exact hw) hd hq hm)]
  have h16 := hs.2.2
  have h6 := hs.2.1
  have h12 := hs.1
  refine ⟨_, VR.one h0 hs.1 (by omega) hp hs.2.2 hc (by decide) (by decide) hop h0.1, by repeat (first | exact same.rf | refine same.sD ?_ (by unfold EXO; omega)), ⟨?_, ?_, ?_⟩, ?_⟩ <;> simp [sD_D, up2, h16, h6, h12, w3']
end Par
