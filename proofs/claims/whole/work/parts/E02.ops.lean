/-! ===== operations on values, two ===== -/
/-- what draw n stirs -/
def stir (a b : Int32) : Int32 := ((a ^^^ b) * ((-1640531535) : Int32)) ^^^ ((((a ^^^ b) * ((-1640531535) : Int32)).toUInt32 >>> (((15 : Int32) : Int32).toUInt32 &&& Int32.toUInt32 31)).toInt32)
def drw (sd tk nu sy d v : Int32) : Int32 := (stir (stir (stir (stir sd tk) nu) sy) d &&& (2147483647 : Int32)) - (stir (stir (stir (stir sd tk) nu) sy) d &&& (2147483647 : Int32)) / v * v
def ipt (I : Nat → Int32) (v : Int32) : Int32 := if v = 0 then I 0 else if v = 1 then I 1 else if v = 2 then I 2 else if v = 3 then I 3 else 0
def byt (v : Int32) : Int32 := if (-128 : Int32) < (if v < 127 then v else 127) then (if v < 127 then v else 127) else -128
theorem nI_ad (a b : Nat) : nI a + nI b = nI (a + b) := by
  show Int32.ofNat a + Int32.ofNat b = Int32.ofNat (a + b)
  rw [← Int32.ofNat_add]
theorem nI_small {v : Int32} {n : Nat} (h0 : ¬ v < 0) (h1 : ¬ nI n ≤ v) (hn : n < 2 ^ 31) : ∃ k, k < n ∧ v = nI k := by
  have e := nI_u v
  have hk : v.toUInt32.toNat < 2 ^ 32 := v.toUInt32.toNat_lt
  generalize v.toUInt32.toNat = k at e hk
  subst e
  refine ⟨k, Decidable.byContradiction fun z => ?_, rfl⟩
  by_cases q : k < 2 ^ 31
  · exact h1 (nI_le (by omega) q)
  · refine h0 ?_
    rw [Int32.lt_iff_toInt_lt]
    have : (nI k).toInt = Int.bmod k (2 ^ 32) := Int32.toInt_ofNat'
    rw [this, Int.bmod_def]
    show _ < (0 : Int)
    omega
/-- a row failed with y -/
def VF (A A2 : Hp) (y : Int32) : Prop := same (EXA 0) A A2 ∧ A2.D 117 16 = y
section Par
variable {N p wo inp cs : Nat} {s pl : Int32}
theorem VS0.i {A : Hp} (h : VS0 A p wo inp cs) : inp ≠ 117 ∧ inp ≠ 119 := by
  have h1 := rS_117 h.1
  have h2 := rA_117_5 h.1
  have h3 := h.2.2.2.2.2.2.1
  refine ⟨fun z => ?_, fun z => ?_⟩
  · rw [z, h1] at h3
    exact absurd (congrArg Prod.fst (Option.some.inj h3)) (by decide)
  · rw [z, h2] at h3
    exact absurd (congrArg Prod.snd (Option.some.inj h3)) (by decide)
theorem VR.fl {A A2 : Hp} {pc c h : Nat} {y : Int32} {z : Unit} (h0 : VS0 A p wo inp cs) (hs : CS A pc h) (hpc : pc < cs) (hp : p ≠ 117) (hc : A.D (p + 191) pc = nI c) (h1 : 1 ≤ c) (h2' : c < 100) (hop : vOp N c (A.sD 117 12 (nI (pc + 1))) = some (z, A2)) (hv : VF A A2 y) : ∃ A2, VR N s pl 1 A A2 ∧ VF A A2 y :=
  ⟨A2, VR.one h0 hs.1 hpc hp hs.2.2 hc h1 h2' hop (hv.1.gr h0.1), hv⟩
theorem ev_stir {A : Hp} {a b : Int32} : F_Row_stirred N a b A = some (stir a b, A) := rfl
theorem op_37 {A : Hp} {pc h : Nat} {l q k : Nat} (hl : l < 21) (hcl : A.D (p + 191) (pc + 1) = nI l) (hcq : A.D (p + 191) (pc + 2) = nI q) (hk : A.D 121 l = nI k) (hk2 : k < 256) (hq : q < 4) (h0 : VS0 A p wo inp cs) (hs : CS A pc h) (hpc : pc + 2 < cs) (hp : p ≠ 117) (hh : h < 160) (hc : A.D (p + 191) pc = nI 37) : ∃ A2, VR N s pl 1 A A2 ∧ VO A A2 h (pc + 3) (A.D (wo + 4) (7 * k + 3 + q)) := by
  have hG1 : Gr (A.sD 117 12 (nI (pc + 1))) := h0.1
  have hG2 : Gr ((A.sD 117 12 (nI (pc + 1))).sD 117 12 (nI (pc + 2))) := h0.1
  refine VR.op (z := ()) h0 hs (by omega) hp hc (by decide) (by decide) (A2 := psA (((A.sD 117 12 (nI (pc + 1))).sD 117 12 (nI (pc + 2))).sD 117 12 (nI (pc + 3))) h (A.D (wo + 4) (7 * k + 3 + q))) ?_ ?_
  · rw [vOp3 (by decide) (by decide)]
    have hW2 : isW ((A.sD 117 12 (nI (pc + 1))).sD 117 12 (nI (pc + 2))) wo := h0.2.2.1
    have hG3 : Gr (((A.sD 117 12 (nI (pc + 1))).sD 117 12 (nI (pc + 2))).sD 117 12 (nI (pc + 3))) := h0.1
    have ea := ev_arg (N := N) (A := A.sD 117 12 (nI (pc + 1))) (pc := pc + 2) (h0.pc hp) hpc hp
    unfold F_Row_value
    rw [if_neg (show ¬ nI 37 = (30 : Int32) by decide), if_neg (show ¬ nI 37 = (31 : Int32) by decide), if_neg (show ¬ nI 37 = (32 : Int32) by decide), if_neg (show ¬ nI 37 = (33 : Int32) by decide), if_neg (show ¬ nI 37 = (34 : Int32) by decide), if_neg (show ¬ nI 37 = (35 : Int32) by decide), if_neg (show ¬ nI 37 = (36 : Int32) by decide), if_pos (show nI 37 = (37 : Int32) by decide), ck_t (rS_117 hG1), sD_P, rf_t (rP_117_8 h0.1), bC_t (ev_arg h0 (by omega) hp), hcl, ar_sD, ar_sD, ar_t (rA_117_8 h0.1), rdI hl (by decide), rdw (by decide), rdw (by decide), hk, bnd_t, sD_P, sD_P, rf_t h0.2.2.2.2.1, ck_t (WS hW2), rf_t (WP_12 h0.2.2.1), bC_t ea, rdw h0.q, hcq, ar_sD, ar_sD, ar_sD, ar_t (WA_12 h0.2.2.1), show nI k * (7 : Int32) + (3 : Int32) + nI q = nI (7 * k + 3 + q) from by rw [show nI k * (7 : Int32) + (3 : Int32) = nI (k * 7 + 3) from nI_ma k 7 3, Nat.mul_comm 7 k]; exact nI_ad _ _, rdI (by omega) (by decide), rdw h0.w.2.2.2.2, rdw h0.w.2.2.2.2, rdw h0.w.2.2.2.2, bC_t (ev_vpush (h := h) hG3 (by rw [rdf (by decide), rdf (by decide), rdf (by decide)]; exact hs.2.1) hh)]
  · have := hs.2.2
    refine ⟨by unfold psA; repeat (first | exact same.rf | refine same.sD ?_ (by unfold EXA; omega)), ⟨?_, ?_, ?_⟩, ?_, ?_⟩ <;> simp [psA, sD_D, up2, this]
theorem op_39 {A : Hp} {pc h : Nat}  (h0 : VS0 A p wo inp cs) (hs : CS A pc (h + 1)) (hpc : pc < cs) (hp : p ≠ 117) (hh : h < 160) (hc : A.D (p + 191) pc = nI 39) : ∃ A2, VR N s pl 1 A A2 ∧ VO A A2 h (pc + 1) (ipt (A.D inp) (A.D 119 h)) := by
  have hG1 : Gr (A.sD 117 12 (nI (pc + 1))) := h0.1
  have hG2 : Gr ((A.sD 117 12 (nI (pc + 1))).sD 117 12 (nI (pc + 2))) := h0.1
  have hGp : Gr ((A.sD 117 12 (nI (pc + 1))).sD 117 6 (nI h)) := h0.1
  refine VR.op (z := ()) h0 hs (by omega) hp hc (by decide) (by decide) (A2 := psA ((A.sD 117 12 (nI (pc + 1))).sD 117 6 (nI h)) h (ipt (A.D inp) (A.D 119 h))) ?_ ?_
  · rw [vOp3 (by decide) (by decide)]
    unfold F_Row_value
    rw [if_neg (show ¬ nI 39 = (30 : Int32) by decide), if_neg (show ¬ nI 39 = (31 : Int32) by decide), if_neg (show ¬ nI 39 = (32 : Int32) by decide), if_neg (show ¬ nI 39 = (33 : Int32) by decide), if_neg (show ¬ nI 39 = (34 : Int32) by decide), if_neg (show ¬ nI 39 = (35 : Int32) by decide), if_neg (show ¬ nI 39 = (36 : Int32) by decide), if_neg (show ¬ nI 39 = (37 : Int32) by decide), if_neg (show ¬ nI 39 = (38 : Int32) by decide), if_pos (show nI 39 = (39 : Int32) by decide), ck_t (rS_117 hG1), bC_t (ev_vpop (h := h) hG1 (by rw [rdf (by decide)]; exact hs.2.1) hh), rdw (show (119 : Nat) ≠ 117 by decide)]
    have fin : ∀ x, B_Row_value_270 N 117 (nI 39) 117 x ((A.sD 117 12 (nI (pc + 1))).sD 117 6 (nI h)) = some ((), psA ((A.sD 117 12 (nI (pc + 1))).sD 117 6 (nI h)) h x) := fun x => by
      unfold B_Row_value_270
      rw [ck_t (rS_117 hGp), bC_t (ev_vpush (h := h) hGp (by repeat (first | rw [rds] | rw [rdf (by decide)])) hh)]
    generalize A.D 119 h = v
    by_cases q : v < 0
    · rw [if_pos q]
      unfold B_Row_value_269
      rw [fin]
      congr 3
      unfold ipt
      rw [if_neg (fun z => by rw [z] at q; exact absurd q (by decide)), if_neg (fun z => by rw [z] at q; exact absurd q (by decide)), if_neg (fun z => by rw [z] at q; exact absurd q (by decide)), if_neg (fun z => by rw [z] at q; exact absurd q (by decide))]
    · rw [if_neg q, sD_P, sD_P, rf_t h0.2.2.2.2.2.1, ar_sD, ar_sD, ar_t h0.2.2.2.2.2.2.1, show Int32.ofNat 4 = nI 4 from rfl]
      by_cases q2 : nI 4 ≤ v
      · rw [if_pos q2]
        unfold B_Row_value_269
        rw [fin]
        congr 3
        unfold ipt
        rw [if_neg (fun z => by rw [z] at q2; exact absurd q2 (by decide)), if_neg (fun z => by rw [z] at q2; exact absurd q2 (by decide)), if_neg (fun z => by rw [z] at q2; exact absurd q2 (by decide)), if_neg (fun z => by rw [z] at q2; exact absurd q2 (by decide))]
      · obtain ⟨k, hk, rfl⟩ := nI_small q q2 (by decide)
        rw [if_neg q2, rf_t h0.2.2.2.2.2.1, ar_sD, ar_sD, ar_t h0.2.2.2.2.2.2.1, rdI hk (by decide), rdw h0.i.1, rdw h0.i.1, fin]
        congr 3
        unfold ipt
        have : k = 0 ∨ k = 1 ∨ k = 2 ∨ k = 3 := by omega
        rcases this with rfl | rfl | rfl | rfl
        · rfl
        · rfl
        · rfl
        · rfl
  · have := hs.2.2
    refine ⟨by unfold psA; repeat (first | exact same.rf | refine same.sD ?_ (by unfold EXA; omega)), ⟨?_, ?_, ?_⟩, ?_, ?_⟩ <;> simp [psA, sD_D, up2, this]
theorem op_41 {A : Hp} {pc h : Nat} {Q : Nat → Nat → Nat} (hP : PPL Q A wo) (h0 : VS0 A p wo inp cs) (hs : CS A pc (h + 1)) (hpc : pc < cs) (hp : p ≠ 117) (hh : h < 160) (hc : A.D (p + 191) pc = nI 41) : ∃ A2, VR N s pl 1 A A2 ∧ VO A A2 h (pc + 1) (if liv Q (A.D 119 h) then 1 else 0) := by
  have hG1 : Gr (A.sD 117 12 (nI (pc + 1))) := h0.1
  have hG2 : Gr ((A.sD 117 12 (nI (pc + 1))).sD 117 12 (nI (pc + 2))) := h0.1
  have hGp : Gr ((A.sD 117 12 (nI (pc + 1))).sD 117 6 (nI h)) := h0.1
  have hWp : isW ((A.sD 117 12 (nI (pc + 1))).sD 117 6 (nI h)) wo := h0.2.2.1
  have hPp : PPL Q ((A.sD 117 12 (nI (pc + 1))).sD 117 6 (nI h)) wo := fun q hq => by rw [rdw h0.w.2.1, rdw h0.w.2.1, rdw h0.w.2.2.1, rdw h0.w.2.2.1]; exact hP q hq
  refine VR.op (z := ()) h0 hs (by omega) hp hc (by decide) (by decide) (A2 := psA ((A.sD 117 12 (nI (pc + 1))).sD 117 6 (nI h)) h (if liv Q (A.D 119 h) then 1 else 0)) ?_ ?_
  · rw [vOp3 (by decide) (by decide)]
    unfold F_Row_value
    rw [if_neg (show ¬ nI 41 = (30 : Int32) by decide), if_neg (show ¬ nI 41 = (31 : Int32) by decide), if_neg (show ¬ nI 41 = (32 : Int32) by decide), if_neg (show ¬ nI 41 = (33 : Int32) by decide), if_neg (show ¬ nI 41 = (34 : Int32) by decide), if_neg (show ¬ nI 41 = (35 : Int32) by decide), if_neg (show ¬ nI 41 = (36 : Int32) by decide), if_neg (show ¬ nI 41 = (37 : Int32) by decide), if_neg (show ¬ nI 41 = (38 : Int32) by decide), if_neg (show ¬ nI 41 = (39 : Int32) by decide), if_neg (show ¬ nI 41 = (40 : Int32) by decide), if_pos (show nI 41 = (41 : Int32) by decide), ck_t (rS_117 hG1), sD_P, rf_t h0.2.2.2.2.1, bC_t (ev_vpop (h := h) hG1 (by rw [rdf (by decide)]; exact hs.2.1) hh), rdw (show (119 : Nat) ≠ 117 by decide), ck_t (WS hWp), bC_t (ev_placeOf hWp hPp)]
    have fin : ∀ x, B_Row_value_307 N 117 (nI 41) 117 x ((A.sD 117 12 (nI (pc + 1))).sD 117 6 (nI h)) = some ((), psA ((A.sD 117 12 (nI (pc + 1))).sD 117 6 (nI h)) h x) := fun x => by
      unfold B_Row_value_307
      rw [ck_t (rS_117 hGp), bC_t (ev_vpush (h := h) hGp (by repeat (first | rw [rds] | rw [rdf (by decide)])) hh)]
    have l8 : lo8 (A.D 119 h) < 256 := lo8_lt
    by_cases q : liv Q (A.D 119 h)
    · rw [if_pos q, if_neg (show ¬ nI (lo8 (A.D 119 h)) < 0 from nI_nlt (b := 0) (by omega) (by omega)), fin, if_pos q]
    · rw [if_neg q, if_pos (by decide), fin, if_neg q]
  · have := hs.2.2
    refine ⟨by unfold psA; repeat (first | exact same.rf | refine same.sD ?_ (by unfold EXA; omega)), ⟨?_, ?_, ?_⟩, ?_, ?_⟩ <;> simp [psA, sD_D, up2, this]
theorem op_42 {A : Hp} {pc h : Nat} {Q : Nat → Nat → Nat} {c : Nat} (hP : PPL Q A wo) (hcc : A.D (p + 191) (pc + 1) = nI c) (hc16 : c < 16) (h0 : VS0 A p wo inp cs) (hs : CS A pc (h + 1)) (hpc : pc + 1 < cs) (hp : p ≠ 117) (hh : h < 160) (hc : A.D (p + 191) pc = nI 42) : ∃ A2, VR N s pl 1 A A2 ∧ VO A A2 h (pc + 2) (if liv Q (A.D 119 h) ∧ Q 2 (lo8 (A.D 119 h)) / 2 ^ c % 2 = 1 then 1 else 0) := by
  have hG1 : Gr (A.sD 117 12 (nI (pc + 1))) := h0.1
  have hG2 : Gr ((A.sD 117 12 (nI (pc + 1))).sD 117 12 (nI (pc + 2))) := h0.1
  have hGp : Gr ((A.sD 117 12 (nI (pc + 1))).sD 117 6 (nI h)) := h0.1
  have hWp : isW ((A.sD 117 12 (nI (pc + 1))).sD 117 6 (nI h)) wo := h0.2.2.1
  have hG3 : Gr (((A.sD 117 12 (nI (pc + 1))).sD 117 6 (nI h)).sD 117 12 (nI (pc + 2))) := h0.1
  have hW3 : isW (((A.sD 117 12 (nI (pc + 1))).sD 117 6 (nI h)).sD 117 12 (nI (pc + 2))) wo := h0.2.2.1
  have hPp : PPL Q ((A.sD 117 12 (nI (pc + 1))).sD 117 6 (nI h)) wo := fun q hq => by rw [rdw h0.w.2.1, rdw h0.w.2.1, rdw h0.w.2.2.1, rdw h0.w.2.2.1]; exact hP q hq
  have hP3 : PPL Q (((A.sD 117 12 (nI (pc + 1))).sD 117 6 (nI h)).sD 117 12 (nI (pc + 2))) wo := fun q hq => by rw [rdw h0.w.2.1, rdw h0.w.2.2.1]; exact hPp q hq
  refine VR.op (z := ()) h0 hs (by omega) hp hc (by decide) (by decide) (A2 := psA (((A.sD 117 12 (nI (pc + 1))).sD 117 6 (nI h)).sD 117 12 (nI (pc + 2))) h (if liv Q (A.D 119 h) ∧ Q 2 (lo8 (A.D 119 h)) / 2 ^ c % 2 = 1 then 1 else 0)) ?_ ?_
  · rw [vOp3 (by decide) (by decide)]
    unfold F_Row_value
    rw [if_neg (show ¬ nI 42 = (30 : Int32) by decide), if_neg (show ¬ nI 42 = (31 : Int32) by decide), if_neg (show ¬ nI 42 = (32 : Int32) by decide), if_neg (show ¬ nI 42 = (33 : Int32) by decide), if_neg (show ¬ nI 42 = (34 : Int32) by decide), if_neg (show ¬ nI 42 = (35 : Int32) by decide), if_neg (show ¬ nI 42 = (36 : Int32) by decide), if_neg (show ¬ nI 42 = (37 : Int32) by decide), if_neg (show ¬ nI 42 = (38 : Int32) by decide), if_neg (show ¬ nI 42 = (39 : Int32) by decide), if_neg (show ¬ nI 42 = (40 : Int32) by decide), if_neg (show ¬ nI 42 = (41 : Int32) by decide), if_pos (show nI 42 = (42 : Int32) by decide), ck_t (rS_117 hG1), sD_P, rf_t h0.2.2.2.2.1, rf_t h0.2.2.2.2.1, bC_t (ev_vpop (h := h) hG1 (by rw [rdf (by decide)]; exact hs.2.1) hh), rdw (show (119 : Nat) ≠ 117 by decide), ck_t (WS hWp), bC_t (ev_placeOf hWp hPp), bC_t (ev_code (pc := pc + 1) ((h0.pc hp).pc hp) (by rw [rdf (by decide), rds]) hpc hp), rdw h0.q, rdw h0.q, hcc, ck_t (WS hW3)]
    have fin : ∀ x, B_Row_value_344 N 117 (nI 42) 117 x (((A.sD 117 12 (nI (pc + 1))).sD 117 6 (nI h)).sD 117 12 (nI (pc + 2))) = some ((), psA (((A.sD 117 12 (nI (pc + 1))).sD 117 6 (nI h)).sD 117 12 (nI (pc + 2))) h x) := fun x => by
      unfold B_Row_value_344
      rw [ck_t (rS_117 hG3), bC_t (ev_vpush (h := h) hG3 (by rw [rdf (by decide), rds]) hh)]
    by_cases q : liv Q (A.D 119 h)
    · rw [if_pos q, bC_t (ev_owns hW3 hP3 lo8_lt hc16 q.1)]
      by_cases q2 : Q 2 (lo8 (A.D 119 h)) / 2 ^ c % 2 = 1
      · rw [if_pos q2, if_neg (by decide), fin, if_pos ⟨q, q2⟩]
      · rw [if_neg q2, if_pos rfl, fin, if_neg (fun z => q2 z.2)]
    · rw [if_neg q, bC_t ev_owns0, if_pos rfl, fin, if_neg (fun z => q z.1)]
  · have := hs.2.2
    refine ⟨by unfold psA; repeat (first | exact same.rf | refine same.sD ?_ (by unfold EXA; omega)), ⟨?_, ?_, ?_⟩, ?_, ?_⟩ <;> simp [psA, sD_D, up2, this]
theorem op_43 {A : Hp} {pc h : Nat}  (h0 : VS0 A p wo inp cs) (hs : CS A pc (h + 1)) (hpc : pc < cs) (hp : p ≠ 117) (hh : h < 160) (hc : A.D (p + 191) pc = nI 43) : ∃ A2, VR N s pl 1 A A2 ∧ VO A A2 h (pc + 1) (byt (A.D 119 h)) := by
  have hG1 : Gr (A.sD 117 12 (nI (pc + 1))) := h0.1
  have hG2 : Gr ((A.sD 117 12 (nI (pc + 1))).sD 117 12 (nI (pc + 2))) := h0.1
  have hGp : Gr ((A.sD 117 12 (nI (pc + 1))).sD 117 6 (nI h)) := h0.1
  refine VR.op (z := ()) h0 hs (by omega) hp hc (by decide) (by decide) (A2 := psA ((A.sD 117 12 (nI (pc + 1))).sD 117 6 (nI h)) h (byt (A.D 119 h))) ?_ ?_
  · rw [vOp3 (by decide) (by decide)]
    unfold F_Row_value
    have e1 : ∀ v (H : Hp), F_Math_min N 127 v H = some (if v < 127 then v else 127, H) := fun v H => by
      unfold F_Math_min
      by_cases q : v < 127
      · rw [if_pos q, if_pos q]
      · rw [if_neg q, if_neg q]
    have e2 : ∀ v (H : Hp), F_Math_max N (-128) v H = some (if (-128 : Int32) < v then v else -128, H) := fun v H => by
      unfold F_Math_max
      by_cases q : (-128 : Int32) < v
      · rw [if_pos q, if_pos q]
      · rw [if_neg q, if_neg q]
    rw [if_neg (show ¬ nI 43 = (30 : Int32) by decide), if_neg (show ¬ nI 43 = (31 : Int32) by decide), if_neg (show ¬ nI 43 = (32 : Int32) by decide), if_neg (show ¬ nI 43 = (33 : Int32) by decide), if_neg (show ¬ nI 43 = (34 : Int32) by decide), if_neg (show ¬ nI 43 = (35 : Int32) by decide), if_neg (show ¬ nI 43 = (36 : Int32) by decide), if_neg (show ¬ nI 43 = (37 : Int32) by decide), if_neg (show ¬ nI 43 = (38 : Int32) by decide), if_neg (show ¬ nI 43 = (39 : Int32) by decide), if_neg (show ¬ nI 43 = (40 : Int32) by decide), if_neg (show ¬ nI 43 = (41 : Int32) by decide), if_neg (show ¬ nI 43 = (42 : Int32) by decide), ck_t (rS_117 hG1), bC_t (ev_vpop (h := h) hG1 (by rw [rdf (by decide)]; exact hs.2.1) hh), rdw (show (119 : Nat) ≠ 117 by decide), bC_t (e1 _ _), bC_t (e2 _ _), bC_t (ev_vpush (h := h) hGp (by repeat (first | rw [rds] | rw [rdf (by decide)])) hh)]
    rfl
  · have := hs.2.2
    refine ⟨by unfold psA; repeat (first | exact same.rf | refine same.sD ?_ (by unfold EXA; omega)), ⟨?_, ?_, ?_⟩, ?_, ?_⟩ <;> simp [psA, sD_D, up2, this]
theorem op_38 {A : Hp} {pc h : Nat} {Q : Nat → Nat → Nat} {c m wd : Nat} (hP : PPL Q A wo) (hcc : A.D (p + 191) (pc + 1) = nI c) (hc16 : c < 16) (hcm : A.D (p + 191) (pc + 2) = nI m) (hw : A.D wo 10 = nI wd) (hd : wd ≤ 48) (hm : m < 48) (hl : liv Q (A.D 119 h) ∧ Q 2 (lo8 (A.D 119 h)) / 2 ^ c % 2 = 1) (h0 : VS0 A p wo inp cs) (hs : CS A pc (h + 1)) (hpc : pc + 2 < cs) (hp : p ≠ 117) (hh : h < 160) (hc : A.D (p + 191) pc = nI 38) : ∃ A2, VR N s pl 1 A A2 ∧ VO A A2 h (pc + 3) (A.D (wo + 3) (lo8 (A.D 119 h) * wd + m)) := by
  have hG1 : Gr (A.sD 117 12 (nI (pc + 1))) := h0.1
  have hG2 : Gr ((A.sD 117 12 (nI (pc + 1))).sD 117 12 (nI (pc + 2))) := h0.1
  have hGp : Gr ((A.sD 117 12 (nI (pc + 1))).sD 117 6 (nI h)) := h0.1
  have hWp : isW ((A.sD 117 12 (nI (pc + 1))).sD 117 6 (nI h)) wo := h0.2.2.1
  have hG3 : Gr ((((A.sD 117 12 (nI (pc + 1))).sD 117 6 (nI h)).sD 117 12 (nI (pc + 2))).sD 117 12 (nI (pc + 3))) := h0.1
  have hW3 : isW ((((A.sD 117 12 (nI (pc + 1))).sD 117 6 (nI h)).sD 117 12 (nI (pc + 2))).sD 117 12 (nI (pc + 3))) wo := h0.2.2.1
  have hPp : PPL Q ((A.sD 117 12 (nI (pc + 1))).sD 117 6 (nI h)) wo := fun q hq => by rw [rdw h0.w.2.1, rdw h0.w.2.1, rdw h0.w.2.2.1, rdw h0.w.2.2.1]; exact hP q hq
  have hP3 : PPL Q ((((A.sD 117 12 (nI (pc + 1))).sD 117 6 (nI h)).sD 117 12 (nI (pc + 2))).sD 117 12 (nI (pc + 3))) wo := fun q hq => by rw [rdw h0.w.2.1, rdw h0.w.2.1, rdw h0.w.2.2.1, rdw h0.w.2.2.1]; exact hPp q hq
  refine VR.op (z := ()) h0 hs (by omega) hp hc (by decide) (by decide) (A2 := psA ((((A.sD 117 12 (nI (pc + 1))).sD 117 6 (nI h)).sD 117 12 (nI (pc + 2))).sD 117 12 (nI (pc + 3))) h (A.D (wo + 3) (lo8 (A.D 119 h) * wd + m))) ?_ ?_
  · rw [vOp3 (by decide) (by decide)]
    unfold F_Row_value
    rw [if_neg (show ¬ nI 38 = (30 : Int32) by decide), if_neg (show ¬ nI 38 = (31 : Int32) by decide), if_neg (show ¬ nI 38 = (32 : Int32) by decide), if_neg (show ¬ nI 38 = (33 : Int32) by decide), if_neg (show ¬ nI 38 = (34 : Int32) by decide), if_neg (show ¬ nI 38 = (35 : Int32) by decide), if_neg (show ¬ nI 38 = (36 : Int32) by decide), if_neg (show ¬ nI 38 = (37 : Int32) by decide), if_pos (show nI 38 = (38 : Int32) by decide), ck_t (rS_117 hG1), sD_P, rf_t h0.2.2.2.2.1, bC_t (ev_vpop (h := h) hG1 (by rw [rdf (by decide)]; exact hs.2.1) hh), rdw (show (119 : Nat) ≠ 117 by decide), ck_t (WS hWp), bC_t (ev_placeOf hWp hPp)]
    unfold F_Row_far
    rw [ck_t (rS_117 hGp), bC_t (ev_code (pc := pc + 1) ((h0.pc hp).pc hp) (by rw [rdf (by decide), rds]) (by omega) hp), rdw h0.q, rdw h0.q, hcc, bC_t (ev_code (pc := pc + 2) (((h0.pc hp).pc hp).pc hp) (by rw [rds]) hpc hp), rdw h0.q, rdw h0.q, rdw h0.q, hcm, sD_P, sD_P, sD_P, sD_P, rf_t h0.2.2.2.2.1, ck_t (WS hW3)]
    rw [if_pos hl.1, bC_t (ev_owns hW3 hP3 lo8_lt hc16 hl.1.1), if_pos hl.2, if_neg (by decide), sD_P, sD_P, sD_P, sD_P, rf_t h0.2.2.2.2.1, ck_t (WS hW3), bC_t (ev_read hW3 (by rw [rdw h0.w.1, rdw h0.w.1, rdw h0.w.1, rdw h0.w.1]; exact hw) hd lo8_lt hm), rdw h0.w.2.2.2.1, rdw h0.w.2.2.2.1, rdw h0.w.2.2.2.1, rdw h0.w.2.2.2.1, bC_t (ev_vpush (h := h) hG3 (by rw [rdf (by decide), rdf (by decide), rds]) hh)]
    rfl
  · have := hs.2.2
    refine ⟨by unfold psA; repeat (first | exact same.rf | refine same.sD ?_ (by unfold EXA; omega)), ⟨?_, ?_, ?_⟩, ?_, ?_⟩ <;> simp [psA, sD_D, up2, this]
theorem op_38f {A : Hp} {pc h : Nat} {Q : Nat → Nat → Nat} {c m : Nat} (hP : PPL Q A wo) (hcc : A.D (p + 191) (pc + 1) = nI c) (hc16 : c < 16) (hcm : A.D (p + 191) (pc + 2) = nI m) (hl : ¬ (liv Q (A.D 119 h) ∧ Q 2 (lo8 (A.D 119 h)) / 2 ^ c % 2 = 1)) (h0 : VS0 A p wo inp cs) (hs : CS A pc (h + 1)) (hpc : pc + 2 < cs) (hp : p ≠ 117) (hh : h < 160) (hc : A.D (p + 191) pc = nI 38) : ∃ A2, VR N s pl 1 A A2 ∧ VF A A2 3 := by
  have hG1 : Gr (A.sD 117 12 (nI (pc + 1))) := h0.1
  have hG2 : Gr ((A.sD 117 12 (nI (pc + 1))).sD 117 12 (nI (pc + 2))) := h0.1
  have hGp : Gr ((A.sD 117 12 (nI (pc + 1))).sD 117 6 (nI h)) := h0.1
  have hWp : isW ((A.sD 117 12 (nI (pc + 1))).sD 117 6 (nI h)) wo := h0.2.2.1
  have hG3 : Gr ((((A.sD 117 12 (nI (pc + 1))).sD 117 6 (nI h)).sD 117 12 (nI (pc + 2))).sD 117 12 (nI (pc + 3))) := h0.1
  have hW3 : isW ((((A.sD 117 12 (nI (pc + 1))).sD 117 6 (nI h)).sD 117 12 (nI (pc + 2))).sD 117 12 (nI (pc + 3))) wo := h0.2.2.1
  have hPp : PPL Q ((A.sD 117 12 (nI (pc + 1))).sD 117 6 (nI h)) wo := fun q hq => by rw [rdw h0.w.2.1, rdw h0.w.2.1, rdw h0.w.2.2.1, rdw h0.w.2.2.1]; exact hP q hq
  have hP3 : PPL Q ((((A.sD 117 12 (nI (pc + 1))).sD 117 6 (nI h)).sD 117 12 (nI (pc + 2))).sD 117 12 (nI (pc + 3))) wo := fun q hq => by rw [rdw h0.w.2.1, rdw h0.w.2.1, rdw h0.w.2.2.1, rdw h0.w.2.2.1]; exact hPp q hq
  refine VR.fl (z := ()) h0 hs (by omega) hp hc (by decide) (by decide) (A2 := ((((A.sD 117 12 (nI (pc + 1))).sD 117 6 (nI h)).sD 117 12 (nI (pc + 2))).sD 117 12 (nI (pc + 3))).sD 117 16 3) ?_ ?_
  · rw [vOp3 (by decide) (by decide)]
    unfold F_Row_value
    rw [if_neg (show ¬ nI 38 = (30 : Int32) by decide), if_neg (show ¬ nI 38 = (31 : Int32) by decide), if_neg (show ¬ nI 38 = (32 : Int32) by decide), if_neg (show ¬ nI 38 = (33 : Int32) by decide), if_neg (show ¬ nI 38 = (34 : Int32) by decide), if_neg (show ¬ nI 38 = (35 : Int32) by decide), if_neg (show ¬ nI 38 = (36 : Int32) by decide), if_neg (show ¬ nI 38 = (37 : Int32) by decide), if_pos (show nI 38 = (38 : Int32) by decide), ck_t (rS_117 hG1), sD_P, rf_t h0.2.2.2.2.1, bC_t (ev_vpop (h := h) hG1 (by rw [rdf (by decide)]; exact hs.2.1) hh), rdw (show (119 : Nat) ≠ 117 by decide), ck_t (WS hWp), bC_t (ev_placeOf hWp hPp)]
    unfold F_Row_far
    rw [ck_t (rS_117 hGp), bC_t (ev_code (pc := pc + 1) ((h0.pc hp).pc hp) (by rw [rdf (by decide), rds]) (by omega) hp), rdw h0.q, rdw h0.q, hcc, bC_t (ev_code (pc := pc + 2) (((h0.pc hp).pc hp).pc hp) (by rw [rds]) hpc hp), rdw h0.q, rdw h0.q, rdw h0.q, hcm, sD_P, sD_P, sD_P, sD_P, rf_t h0.2.2.2.2.1, ck_t (WS hW3)]
    by_cases q : liv Q (A.D 119 h)
    · rw [if_pos q, bC_t (ev_owns hW3 hP3 lo8_lt hc16 q.1), if_neg (fun z => hl ⟨q, z⟩), if_pos rfl]
      rfl
    · rw [if_neg q, bC_t ev_owns0, if_pos rfl]
      rfl
  · refine ⟨by repeat (first | exact same.rf | refine same.sD ?_ (by unfold EXA; omega)), ?_⟩ <;> simp [sD_D, up2]
theorem ev_draw {A : Hp} {q h : Nat} {v d : Int32} (hG : Gr A) (hW : isW A wo) (hP : A.P 117 3 = .ref wo) (h6 : A.D 117 6 = nI h) (hh : h < 160) (h18 : A.D 117 18 = nI q) (hq : q < 256) (hv : (1 : Int32) ≤ v) (h14 : A.D 117 14 = d) : F_Row_draw N 117 v A = some ((), psA (A.sD 117 14 (d + 1)) h (drw (A.D wo 1) (A.D wo 0) ((256 : Int32) * A.D (wo + 1) q + nI q) (A.D 117 17) d v)) := by
  have hGd : Gr (A.sD 117 14 (d + 1)) := hG
  have hz : ¬ v = 0 := fun z => by rw [z] at hv; exact absurd hv (by decide)
  unfold F_Row_draw drw
  rw [if_pos hv, ck_t (rS_117 hG), rf_t hP, ck_t (WS hW), bnd_t, rf_t hP, ck_t (WS hW), bnd_t, bC_t ev_stir, rf_t hP, bnd_t, h18, ck_t (WS hW), bC_t (ev_numAt hW hq), bC_t ev_stir, bnd_t, bC_t ev_stir, bnd_t, h14, bC_t ev_stir, bnd_t, h14, bnd_t, ck_t hz, bnd_t, bC_t (ev_vpush (h := h) hGd (by rw [rdf (by decide)]; exact h6) hh)]
theorem hx_40 {A : Hp} {pc h : Nat} {x d : Int32} (h16 : A.D 117 16 = 0) : same (EXA h) A (psA ((((A.sD 117 12 (nI (pc + 1))).sD 117 6 (nI h))).sD 117 14 d) h x) ∧ CS (psA ((((A.sD 117 12 (nI (pc + 1))).sD 117 6 (nI h))).sD 117 14 d) h x) (pc + 1) (h + 1) ∧ (psA ((((A.sD 117 12 (nI (pc + 1))).sD 117 6 (nI h))).sD 117 14 d) h x).D 119 h = x ∧ (psA ((((A.sD 117 12 (nI (pc + 1))).sD 117 6 (nI h))).sD 117 14 d) h x).D 117 14 = d := by
  refine ⟨by unfold psA; repeat (first | exact same.rf | refine same.sD ?_ (by unfold EXA; omega)), ⟨?_, ?_, ?_⟩, ?_, ?_⟩ <;> simp [psA, sD_D, up2, h16]
theorem vo_40 {A : Hp} {pc h : Nat} {x d : Int32} (hG1 : Gr (A.sD 117 12 (nI (pc + 1)))) (hs : CS A pc (h + 1)) (hh : h < 160) (e : F_Row_draw N 117 (A.D 119 h) ((A.sD 117 12 (nI (pc + 1))).sD 117 6 (nI h)) = some ((), psA ((((A.sD 117 12 (nI (pc + 1))).sD 117 6 (nI h))).sD 117 14 d) h x)) : vOp N 40 (A.sD 117 12 (nI (pc + 1))) = some ((), psA ((((A.sD 117 12 (nI (pc + 1))).sD 117 6 (nI h))).sD 117 14 d) h x) := by
  rw [vOp3 (by decide) (by decide)]
  unfold F_Row_value
  rw [if_neg (show ¬ nI 40 = (30 : Int32) by decide), if_neg (show ¬ nI 40 = (31 : Int32) by decide), if_neg (show ¬ nI 40 = (32 : Int32) by decide), if_neg (show ¬ nI 40 = (33 : Int32) by decide), if_neg (show ¬ nI 40 = (34 : Int32) by decide), if_neg (show ¬ nI 40 = (35 : Int32) by decide), if_neg (show ¬ nI 40 = (36 : Int32) by decide), if_neg (show ¬ nI 40 = (37 : Int32) by decide), if_neg (show ¬ nI 40 = (38 : Int32) by decide), if_neg (show ¬ nI 40 = (39 : Int32) by decide), if_pos (show nI 40 = (40 : Int32) by decide), ck_t (rS_117 hG1), bC_t (ev_vpop (h := h) hG1 (by rw [rdf (by decide)]; exact hs.2.1) hh), rdw (show (119 : Nat) ≠ 117 by decide), bC_t e]
theorem op_40 {A : Hp} {pc h : Nat} {q : Nat} (h18 : A.D 117 18 = nI q) (hq : q < 256) (hv : (1 : Int32) ≤ A.D 119 h) (h0 : VS0 A p wo inp cs) (hs : CS A pc (h + 1)) (hpc : pc < cs) (hp : p ≠ 117) (hh : h < 160) (hc : A.D (p + 191) pc = nI 40) : ∃ A2, VR N s pl 1 A A2 ∧ same (EXA h) A A2 ∧ CS A2 (pc + 1) (h + 1) ∧ A2.D 119 h = drw (A.D wo 1) (A.D wo 0) ((256 : Int32) * A.D (wo + 1) q + nI q) (A.D 117 17) (A.D 117 14) (A.D 119 h) ∧ A2.D 117 14 = A.D 117 14 + 1 := by
  have hG1 : Gr (A.sD 117 12 (nI (pc + 1))) := h0.1
  have hG2 : Gr ((A.sD 117 12 (nI (pc + 1))).sD 117 12 (nI (pc + 2))) := h0.1
  have hGp : Gr ((A.sD 117 12 (nI (pc + 1))).sD 117 6 (nI h)) := h0.1
  have hWp : isW ((A.sD 117 12 (nI (pc + 1))).sD 117 6 (nI h)) wo := h0.2.2.1
  have e := ev_draw (N := N) (wo := wo) (A := (A.sD 117 12 (nI (pc + 1))).sD 117 6 (nI h)) (q := q) (h := h) (v := A.D 119 h) (d := A.D 117 14) hGp hWp h0.2.2.2.2.1 rds hh (by rw [rdf (by decide), rdf (by decide)]; exact h18) hq hv (by rw [rdf (by decide), rdf (by decide)])
  rw [rdw h0.w.1, rdw h0.w.1, rdw h0.w.1, rdw h0.w.1, rdw h0.w.2.1, rdw h0.w.2.1, rdf (by decide), rdf (by decide)] at e
  generalize drw (A.D wo 1) (A.D wo 0) ((256 : Int32) * A.D (wo + 1) q + nI q) (A.D 117 17) (A.D 117 14) (A.D 119 h) = x at e ⊢
  have hx := hx_40 (A := A) (pc := pc) (h := h) (x := x) (d := A.D 117 14 + 1) hs.2.2
  exact ⟨_, VR.one (v := ()) h0 hs.1 hpc hp hs.2.2 hc (by decide) (by decide) (vo_40 hG1 hs hh e) (hx.1.gr h0.1), hx⟩
theorem op_40f {A : Hp} {pc h : Nat} (hv : ¬ (1 : Int32) ≤ A.D 119 h) (h0 : VS0 A p wo inp cs) (hs : CS A pc (h + 1)) (hpc : pc < cs) (hp : p ≠ 117) (hh : h < 160) (hc : A.D (p + 191) pc = nI 40) : ∃ A2, VR N s pl 1 A A2 ∧ VF A A2 7 := by
  have hG1 : Gr (A.sD 117 12 (nI (pc + 1))) := h0.1
  have hG2 : Gr ((A.sD 117 12 (nI (pc + 1))).sD 117 12 (nI (pc + 2))) := h0.1
  have hGp : Gr ((A.sD 117 12 (nI (pc + 1))).sD 117 6 (nI h)) := h0.1
  refine VR.fl (z := ()) h0 hs (by omega) hp hc (by decide) (by decide) (A2 := ((A.sD 117 12 (nI (pc + 1))).sD 117 6 (nI h)).sD 117 16 7) ?_ ?_
  · rw [vOp3 (by decide) (by decide)]
    unfold F_Row_value
    rw [if_neg (show ¬ nI 40 = (30 : Int32) by decide), if_neg (show ¬ nI 40 = (31 : Int32) by decide), if_neg (show ¬ nI 40 = (32 : Int32) by decide), if_neg (show ¬ nI 40 = (33 : Int32) by decide), if_neg (show ¬ nI 40 = (34 : Int32) by decide), if_neg (show ¬ nI 40 = (35 : Int32) by decide), if_neg (show ¬ nI 40 = (36 : Int32) by decide), if_neg (show ¬ nI 40 = (37 : Int32) by decide), if_neg (show ¬ nI 40 = (38 : Int32) by decide), if_neg (show ¬ nI 40 = (39 : Int32) by decide), if_pos (show nI 40 = (40 : Int32) by decide), ck_t (rS_117 hG1), bC_t (ev_vpop (h := h) hG1 (by rw [rdf (by decide)]; exact hs.2.1) hh), rdw (show (119 : Nat) ≠ 117 by decide)]
    unfold F_Row_draw
    rw [if_neg hv, ck_t (rS_117 hGp), bnd_t]
    rfl
  · refine ⟨by repeat (first | exact same.rf | refine same.sD ?_ (by unfold EXA; omega)), ?_⟩ <;> simp [sD_D, up2]
end Par
