/-! ===== operations 8, 9, 10 ===== -/
def EXP (l n a f : Nat) : Prop := (a = 117 ∧ f = 12) ∨ (a = 121 ∧ f = l) ∨ (a = 120 ∧ f = n)
section Par
variable {N p wo inp cs : Nat} {s pl : Int32} {Q : Nat → Nat → Nat}
theorem mH_pc {A : Hp} {e x : Nat} {sf v : Int32} (h : VS0 A p wo inp cs) : mH (A.sD 117 x v) wo e sf = mH A wo e sf := by
  funext k
  unfold mH
  rw [rdw h.w.2.2.2.2, rdw h.w.2.2.2.2, rdw h.w.2.2.2.2, rdw h.w.1]
theorem mE_pc {A : Hp} {q0 wd f c x : Nat} {ne rad v : Int32} (h : VS0 A p wo inp cs) : mE (A.sD 117 x v) wo q0 wd f c ne rad Q = mE A wo q0 wd f c ne rad Q := by
  funext k
  unfold mE
  rw [rdw h.w.2.2.2.1, rdw h.w.2.2.2.1, rdw h.w.2.2.2.1, rdw h.w.2.2.2.1]
theorem PPL_pc {A : Hp} {x : Nat} {v : Int32} (h : VS0 A p wo inp cs) (hP : PPL Q A wo) : PPL Q (A.sD 117 x v) wo := fun q hq => by
  rw [rdw h.w.2.1, rdw h.w.2.2.1]
  exact hP q hq
theorem op_10 {A : Hp} {pc h : Nat} {l e t q0 C k0 : Nat} (hN : 300 ≤ N) (hl : l < 21) (hcl : A.D (p + 191) (pc + 1) = nI l) (hce : A.D (p + 191) (pc + 2) = nI e) (hct : A.D (p + 191) (pc + 3) = nI t) (h18 : A.D 117 18 = nI q0) (hq0 : q0 < 256) (hcur : A.D 121 l + 1 = nI k0) (hk0 : k0 ≤ C) (hC : A.D wo 13 = nI C) (hC2 : C ≤ 256) (h0 : VS0 A p wo inp cs) (hs : CS A pc h) (hpc : pc + 3 < cs) (hp : p ≠ 117)  (hc : A.D (p + 191) pc = nI 10) : (∃ k', k0 ≤ k' ∧ k' < C ∧ mH A wo e ((256 : Int32) * A.D (wo + 1) q0 + nI q0) k' ∧ (∀ x, k0 ≤ x → x < k' → ¬ mH A wo e ((256 : Int32) * A.D (wo + 1) q0 + nI q0) x) ∧ ∃ A2, VR N s pl 1 A A2 ∧ same (EXP l 0) A A2 ∧ CS A2 (pc + 4) h ∧ A2.D 121 l = nI k' ∧ A2.D 120 0 = A.D 120 0) ∨ ((∀ x, k0 ≤ x → x < C → ¬ mH A wo e ((256 : Int32) * A.D (wo + 1) q0 + nI q0) x) ∧ ∃ A2, VR N s pl 1 A A2 ∧ same (EXO 117 12) A A2 ∧ CS A2 t h) := by
  have hG1 : Gr (A.sD 117 12 (nI (pc + 1))) := h0.1
  have hG2 : Gr ((A.sD 117 12 (nI (pc + 1))).sD 117 12 (nI (pc + 2))) := h0.1
  have v1 := h0.pc (x := 12) (v := nI (pc + 1)) hp
  have v2 := v1.pc (x := 12) (v := nI (pc + 2)) hp
  have v3 := v2.pc (x := 12) (v := nI (pc + 3)) hp
  have v4 := v3.pc (x := 12) (v := nI (pc + 4)) hp
  have hb : vOp N 10 (A.sD 117 12 (nI (pc + 1))) = B_Row_nextHeard_33 N 117 (nI l) N (nI e) (nI t) ((256 : Int32) * A.D (wo + 1) q0 + nI q0) (nI k0) ((((A.sD 117 12 (nI (pc + 1))).sD 117 12 (nI (pc + 2))).sD 117 12 (nI (pc + 3))).sD 117 12 (nI (pc + 4))) := by
    rw [vOp0 (by decide)]
    unfold F_Row_control
    rw [if_neg (show ¬ nI 10 = (1 : Int32) by decide), if_neg (show ¬ nI 10 = (11 : Int32) by decide), ck_t (rS_117 hG1), bC_t (ev_arg h0 (by omega) hp), hcl]
    unfold B_Row_control_19
    rw [if_neg (show ¬ nI 10 = (1 : Int32) by decide), if_neg (show ¬ nI 10 = (2 : Int32) by decide), if_neg (show ¬ nI 10 = (3 : Int32) by decide), if_neg (show ¬ nI 10 = (4 : Int32) by decide), if_neg (show ¬ nI 10 = (5 : Int32) by decide), if_neg (show ¬ nI 10 = (6 : Int32) by decide), if_neg (show ¬ nI 10 = (7 : Int32) by decide), if_neg (show ¬ nI 10 = (8 : Int32) by decide), if_neg (show ¬ nI 10 = (9 : Int32) by decide), if_pos (show nI 10 = (10 : Int32) by decide), ck_t (rS_117 hG2)]
    unfold F_Row_nextHeard
    rw [ck_t (rS_117 hG2), bC_t (ev_arg (pc := pc + 2) v1 (by omega) hp), rdw h0.q, hce, bC_t (ev_arg (pc := pc + 3) v2 (by omega) hp), rdw h0.q, rdw h0.q, hct, rf_t (v4.2.2.2.2.1), bnd_t, rdf (by decide), rdf (by decide), rdf (by decide), rdf (by decide), h18, ck_t (WS v4.2.2.1), bC_t (ev_numAt v4.2.2.1 hq0), rdw h0.w.2.1, rdw h0.w.2.1, rdw h0.w.2.1, rdw h0.w.2.1, rf_t (rP_117_8 v4.1), ar_t (rA_117_8 v4.1), rdI hl (by decide), rdw (by decide), rdw (by decide), rdw (by decide), rdw (by decide), hcur, bnd_t, bC_eta]
  have em : mH ((((A.sD 117 12 (nI (pc + 1))).sD 117 12 (nI (pc + 2))).sD 117 12 (nI (pc + 3))).sD 117 12 (nI (pc + 4))) wo e ((256 : Int32) * A.D (wo + 1) q0 + nI q0) = mH A wo e ((256 : Int32) * A.D (wo + 1) q0 + nI q0) := by
    rw [mH_pc v3, mH_pc v2, mH_pc v1, mH_pc h0]
  have h16 := hs.2.2
  have h6 := hs.2.1
  rcases ev_nh (N := N) (l := l) (e := e) (t := t) (sf := (256 : Int32) * A.D (wo + 1) q0 + nI q0) v4 hl (by rw [rdw h0.w.1, rdw h0.w.1, rdw h0.w.1, rdw h0.w.1]; exact hC) hC2 (C - k0) k0 N (by omega) (by omega) with ⟨k', a1, a2, a3, a4, a5⟩ | ⟨a1, a2⟩
  · rw [em] at a3 a4
    refine .inl ⟨k', a1, a2, a3, a4, _, VR.one h0 hs.1 (by omega) hp hs.2.2 hc (by decide) (by decide) (hb.trans a5) h0.1, by repeat (first | exact same.rf | refine same.sD ?_ (by unfold EXP; omega)), ⟨?_, ?_, ?_⟩, ?_, ?_⟩ <;> simp [sD_D, up2, h16, h6]
  · rw [em] at a1
    refine .inr ⟨a1, _, VR.one h0 hs.1 (by omega) hp hs.2.2 hc (by decide) (by decide) (hb.trans a2) h0.1, by repeat (first | exact same.rf | refine same.sD ?_ (by unfold EXO; omega)), ⟨?_, ?_, ?_⟩⟩ <;> simp [sD_D, up2, h16, h6]
theorem op_8 {A : Hp} {pc h : Nat} {l n t c q0 wd f top k0 : Nat} (hN : 300 ≤ N) (hP : PPL Q A wo) (hl : l < 21) (hcl : A.D (p + 191) (pc + 1) = nI l) (hcc : A.D (p + 191) (pc + 2) = nI c) (hcn : A.D (p + 191) (pc + 3) = nI n) (hct : A.D (p + 191) (pc + 4) = nI t) (hc16 : c < 16) (hn : n < 12) (h18 : A.D 117 18 = nI q0) (hq0 : q0 < 256) (hw : A.D wo 10 = nI wd) (hwd : wd ≤ 48) (hfi : A.D (p + 137) c = nI f) (hcur : A.D 121 l + 1 = nI k0) (hk0 : k0 ≤ top) (ht : A.D wo 9 = nI top) (ht2 : top ≤ 256) (h0 : VS0 A p wo inp cs) (hs : CS A pc h) (hpc : pc + 4 < cs) (hp : p ≠ 117)  (hc : A.D (p + 191) pc = nI 8) : (∃ k', k0 ≤ k' ∧ k' < top ∧ mE A wo q0 wd f c 0 (A.D 122 l) Q k' ∧ (∀ x, k0 ≤ x → x < k' → ¬ mE A wo q0 wd f c 0 (A.D 122 l) Q x) ∧ ∃ A2, VR N s pl 1 A A2 ∧ same (EXP l n) A A2 ∧ CS A2 (pc + 5) h ∧ A2.D 121 l = nI k' ∧ A2.D 120 n = (256 : Int32) * A.D (wo + 1) k' + nI k') ∨ ((∀ x, k0 ≤ x → x < top → ¬ mE A wo q0 wd f c 0 (A.D 122 l) Q x) ∧ ∃ A2, VR N s pl 1 A A2 ∧ same (EXO 117 12) A A2 ∧ CS A2 t h) := by
  have hG1 : Gr (A.sD 117 12 (nI (pc + 1))) := h0.1
  have hG2 : Gr ((A.sD 117 12 (nI (pc + 1))).sD 117 12 (nI (pc + 2))) := h0.1
  have v1 := h0.pc (x := 12) (v := nI (pc + 1)) hp
  have v2 := v1.pc (x := 12) (v := nI (pc + 2)) hp
  have v3 := v2.pc (x := 12) (v := nI (pc + 3)) hp
  have v4 := v3.pc (x := 12) (v := nI (pc + 4)) hp
  have v5 := v4.pc (x := 12) (v := nI (pc + 5)) hp
  have p137 : p + 137 ≠ 117 := fun z => by
    have k2 := rS_117 h0.1
    have k3 := PcA_2 h0.2.1
    rw [z, k2] at k3
    exact absurd (congrArg Prod.fst (Option.some.inj k3)) (by decide)
  have hb : vOp N 8 (A.sD 117 12 (nI (pc + 1))) = B_Row_nextEntity_54 N 117 (nI l) 0 N (nI c) (nI n) (nI t) (nI (q0 * wd + f)) (nI k0) (((((A.sD 117 12 (nI (pc + 1))).sD 117 12 (nI (pc + 2))).sD 117 12 (nI (pc + 3))).sD 117 12 (nI (pc + 4))).sD 117 12 (nI (pc + 5))) := by
    rw [vOp0 (by decide)]
    unfold F_Row_control
    rw [if_neg (show ¬ nI 8 = (1 : Int32) by decide), if_neg (show ¬ nI 8 = (11 : Int32) by decide), ck_t (rS_117 hG1), bC_t (ev_arg h0 (by omega) hp), hcl]
    unfold B_Row_control_19
    rw [if_neg (show ¬ nI 8 = (1 : Int32) by decide), if_neg (show ¬ nI 8 = (2 : Int32) by decide), if_neg (show ¬ nI 8 = (3 : Int32) by decide), if_neg (show ¬ nI 8 = (4 : Int32) by decide), if_neg (show ¬ nI 8 = (5 : Int32) by decide), if_neg (show ¬ nI 8 = (6 : Int32) by decide), if_neg (show ¬ nI 8 = (7 : Int32) by decide), if_pos (show nI 8 = (8 : Int32) by decide), if_neg (show ¬ nI 8 = (9 : Int32) by decide)]
    unfold B_Row_control_202
    rw [ck_t (rS_117 hG2)]
    unfold F_Row_nextEntity
    rw [ck_t (rS_117 hG2), bC_t (ev_arg (pc := pc + 2) v1 (by omega) hp), rdw h0.q, hcc, bC_t (ev_arg (pc := pc + 3) v2 (by omega) hp), rdw h0.q, rdw h0.q, hcn, bC_t (ev_arg (pc := pc + 4) v3 (by omega) hp), rdw h0.q, rdw h0.q, rdw h0.q, hct, bnd_t, rdf (by decide), rdf (by decide), rdf (by decide), rdf (by decide), rdf (by decide), h18, rf_t (v5.2.2.2.2.1), ck_t (WS v5.2.2.1), bnd_t, rdw h0.w.1, rdw h0.w.1, rdw h0.w.1, rdw h0.w.1, rdw h0.w.1, hw, rf_t v5.2.2.2.1, ck_t (PrS v5.2.1), rf_t (PrP_2 v5.2.1), ck_t (PrA_2 v5.2.1), rf_t (PcP_2 v5.2.1), ar_t (PcA_2 v5.2.1), rdI (show c < 17 by omega) (by decide), rdw p137, rdw p137, rdw p137, rdw p137, rdw p137, hfi, nI_ma, bnd_t, rf_t (rP_117_8 v5.1), ar_t (rA_117_8 v5.1), rdI hl (by decide), rdw (by decide), rdw (by decide), rdw (by decide), rdw (by decide), rdw (by decide), hcur, bnd_t, bC_eta]
  have em : ∀ rad, mE (((((A.sD 117 12 (nI (pc + 1))).sD 117 12 (nI (pc + 2))).sD 117 12 (nI (pc + 3))).sD 117 12 (nI (pc + 4))).sD 117 12 (nI (pc + 5))) wo q0 wd f c 0 rad Q = mE A wo q0 wd f c 0 rad Q := by
    intro rad
    rw [mE_pc v4, mE_pc v3, mE_pc v2, mE_pc v1, mE_pc h0]
  have hP5 := PPL_pc (x := 12) (v := nI (pc + 5)) v4 (PPL_pc (x := 12) (v := nI (pc + 4)) v3 (PPL_pc (x := 12) (v := nI (pc + 3)) v2 (PPL_pc (x := 12) (v := nI (pc + 2)) v1 (PPL_pc (x := 12) (v := nI (pc + 1)) h0 hP))))
  have er : (((((A.sD 117 12 (nI (pc + 1))).sD 117 12 (nI (pc + 2))).sD 117 12 (nI (pc + 3))).sD 117 12 (nI (pc + 4))).sD 117 12 (nI (pc + 5))).D 122 l = A.D 122 l := by rw [rdw (by decide), rdw (by decide), rdw (by decide), rdw (by decide), rdw (by decide)]
  have en : ∀ x, (((((A.sD 117 12 (nI (pc + 1))).sD 117 12 (nI (pc + 2))).sD 117 12 (nI (pc + 3))).sD 117 12 (nI (pc + 4))).sD 117 12 (nI (pc + 5))).D (wo + 1) x = A.D (wo + 1) x := fun x => by rw [rdw h0.w.2.1, rdw h0.w.2.1, rdw h0.w.2.1, rdw h0.w.2.1, rdw h0.w.2.1]
  have h16 := hs.2.2
  have h6 := hs.2.1
  rcases ev_nE (N := N) (l := l) (n := n) (t := t) (c := c) (q0 := q0) (wd := wd) (f := f) (top := top) (ne := 0) v5 hP5 (by rw [rdf (by decide), rdf (by decide), rdf (by decide), rdf (by decide), rdf (by decide)]; exact h18) hq0 (by rw [rdw h0.w.1, rdw h0.w.1, rdw h0.w.1, rdw h0.w.1, rdw h0.w.1]; exact hw) hwd (fun z => absurd z (by decide)) hc16 hl hn (by rw [rdw h0.w.1, rdw h0.w.1, rdw h0.w.1, rdw h0.w.1, rdw h0.w.1]; exact ht) ht2 (.inl rfl) (top - k0) k0 N (by omega) (by omega) with ⟨k', a1, a2, a3, a4, a5⟩ | ⟨a1, a2⟩
  · rw [er, em] at a3 a4
    rw [en] at a5
    refine .inl ⟨k', a1, a2, a3, a4, _, VR.one h0 hs.1 (by omega) hp hs.2.2 hc (by decide) (by decide) (hb.trans a5) h0.1, by repeat (first | exact same.rf | refine same.sD ?_ (by unfold EXP; omega)), ⟨?_, ?_, ?_⟩, ?_, ?_⟩ <;> simp [sD_D, up2, h16, h6]
  · rw [er, em] at a1
    refine .inr ⟨a1, _, VR.one h0 hs.1 (by omega) hp hs.2.2 hc (by decide) (by decide) (hb.trans a2) h0.1, by repeat (first | exact same.rf | refine same.sD ?_ (by unfold EXO; omega)), ⟨?_, ?_, ?_⟩⟩ <;> simp [sD_D, up2, h16, h6]
theorem op_9 {A : Hp} {pc h : Nat} {l n t c q0 wd f top k0 : Nat} (hN : 300 ≤ N) (hP : PPL Q A wo) (hf : f + 1 < 48) (hl : l < 21) (hcl : A.D (p + 191) (pc + 1) = nI l) (hcc : A.D (p + 191) (pc + 2) = nI c) (hcn : A.D (p + 191) (pc + 3) = nI n) (hct : A.D (p + 191) (pc + 4) = nI t) (hc16 : c < 16) (hn : n < 12) (h18 : A.D 117 18 = nI q0) (hq0 : q0 < 256) (hw : A.D wo 10 = nI wd) (hwd : wd ≤ 48) (hfi : A.D (p + 137) c = nI f) (hcur : A.D 121 l + 1 = nI k0) (hk0 : k0 ≤ top) (ht : A.D wo 9 = nI top) (ht2 : top ≤ 256) (h0 : VS0 A p wo inp cs) (hs : CS A pc h) (hpc : pc + 4 < cs) (hp : p ≠ 117)  (hc : A.D (p + 191) pc = nI 9) : (∃ k', k0 ≤ k' ∧ k' < top ∧ mE A wo q0 wd f c 1 (A.D 122 l) Q k' ∧ (∀ x, k0 ≤ x → x < k' → ¬ mE A wo q0 wd f c 1 (A.D 122 l) Q x) ∧ ∃ A2, VR N s pl 1 A A2 ∧ same (EXP l n) A A2 ∧ CS A2 (pc + 5) h ∧ A2.D 121 l = nI k' ∧ A2.D 120 n = (256 : Int32) * A.D (wo + 1) k' + nI k') ∨ ((∀ x, k0 ≤ x → x < top → ¬ mE A wo q0 wd f c 1 (A.D 122 l) Q x) ∧ ∃ A2, VR N s pl 1 A A2 ∧ same (EXO 117 12) A A2 ∧ CS A2 t h) := by
  have hG1 : Gr (A.sD 117 12 (nI (pc + 1))) := h0.1
  have hG2 : Gr ((A.sD 117 12 (nI (pc + 1))).sD 117 12 (nI (pc + 2))) := h0.1
  have v1 := h0.pc (x := 12) (v := nI (pc + 1)) hp
  have v2 := v1.pc (x := 12) (v := nI (pc + 2)) hp
  have v3 := v2.pc (x := 12) (v := nI (pc + 3)) hp
  have v4 := v3.pc (x := 12) (v := nI (pc + 4)) hp
  have v5 := v4.pc (x := 12) (v := nI (pc + 5)) hp
  have p137 : p + 137 ≠ 117 := fun z => by
    have k2 := rS_117 h0.1
    have k3 := PcA_2 h0.2.1
    rw [z, k2] at k3
    exact absurd (congrArg Prod.fst (Option.some.inj k3)) (by decide)
  have hb : vOp N 9 (A.sD 117 12 (nI (pc + 1))) = B_Row_nextEntity_54 N 117 (nI l) 1 N (nI c) (nI n) (nI t) (nI (q0 * wd + f)) (nI k0) (((((A.sD 117 12 (nI (pc + 1))).sD 117 12 (nI (pc + 2))).sD 117 12 (nI (pc + 3))).sD 117 12 (nI (pc + 4))).sD 117 12 (nI (pc + 5))) := by
    rw [vOp0 (by decide)]
    unfold F_Row_control
    rw [if_neg (show ¬ nI 9 = (1 : Int32) by decide), if_neg (show ¬ nI 9 = (11 : Int32) by decide), ck_t (rS_117 hG1), bC_t (ev_arg h0 (by omega) hp), hcl]
    unfold B_Row_control_19
    rw [if_neg (show ¬ nI 9 = (1 : Int32) by decide), if_neg (show ¬ nI 9 = (2 : Int32) by decide), if_neg (show ¬ nI 9 = (3 : Int32) by decide), if_neg (show ¬ nI 9 = (4 : Int32) by decide), if_neg (show ¬ nI 9 = (5 : Int32) by decide), if_neg (show ¬ nI 9 = (6 : Int32) by decide), if_neg (show ¬ nI 9 = (7 : Int32) by decide), if_neg (show ¬ nI 9 = (8 : Int32) by decide), if_pos (show nI 9 = (9 : Int32) by decide), if_pos (show nI 9 = (9 : Int32) by decide)]
    unfold B_Row_control_202
    rw [ck_t (rS_117 hG2)]
    unfold F_Row_nextEntity
    rw [ck_t (rS_117 hG2), bC_t (ev_arg (pc := pc + 2) v1 (by omega) hp), rdw h0.q, hcc, bC_t (ev_arg (pc := pc + 3) v2 (by omega) hp), rdw h0.q, rdw h0.q, hcn, bC_t (ev_arg (pc := pc + 4) v3 (by omega) hp), rdw h0.q, rdw h0.q, rdw h0.q, hct, bnd_t, rdf (by decide), rdf (by decide), rdf (by decide), rdf (by decide), rdf (by decide), h18, rf_t (v5.2.2.2.2.1), ck_t (WS v5.2.2.1), bnd_t, rdw h0.w.1, rdw h0.w.1, rdw h0.w.1, rdw h0.w.1, rdw h0.w.1, hw, rf_t v5.2.2.2.1, ck_t (PrS v5.2.1), rf_t (PrP_2 v5.2.1), ck_t (PrA_2 v5.2.1), rf_t (PcP_2 v5.2.1), ar_t (PcA_2 v5.2.1), rdI (show c < 17 by omega) (by decide), rdw p137, rdw p137, rdw p137, rdw p137, rdw p137, hfi, nI_ma, bnd_t, rf_t (rP_117_8 v5.1), ar_t (rA_117_8 v5.1), rdI hl (by decide), rdw (by decide), rdw (by decide), rdw (by decide), rdw (by decide), rdw (by decide), hcur, bnd_t, bC_eta]
  have em : ∀ rad, mE (((((A.sD 117 12 (nI (pc + 1))).sD 117 12 (nI (pc + 2))).sD 117 12 (nI (pc + 3))).sD 117 12 (nI (pc + 4))).sD 117 12 (nI (pc + 5))) wo q0 wd f c 1 rad Q = mE A wo q0 wd f c 1 rad Q := by
    intro rad
    rw [mE_pc v4, mE_pc v3, mE_pc v2, mE_pc v1, mE_pc h0]
  have hP5 := PPL_pc (x := 12) (v := nI (pc + 5)) v4 (PPL_pc (x := 12) (v := nI (pc + 4)) v3 (PPL_pc (x := 12) (v := nI (pc + 3)) v2 (PPL_pc (x := 12) (v := nI (pc + 2)) v1 (PPL_pc (x := 12) (v := nI (pc + 1)) h0 hP))))
  have er : (((((A.sD 117 12 (nI (pc + 1))).sD 117 12 (nI (pc + 2))).sD 117 12 (nI (pc + 3))).sD 117 12 (nI (pc + 4))).sD 117 12 (nI (pc + 5))).D 122 l = A.D 122 l := by rw [rdw (by decide), rdw (by decide), rdw (by decide), rdw (by decide), rdw (by decide)]
  have en : ∀ x, (((((A.sD 117 12 (nI (pc + 1))).sD 117 12 (nI (pc + 2))).sD 117 12 (nI (pc + 3))).sD 117 12 (nI (pc + 4))).sD 117 12 (nI (pc + 5))).D (wo + 1) x = A.D (wo + 1) x := fun x => by rw [rdw h0.w.2.1, rdw h0.w.2.1, rdw h0.w.2.1, rdw h0.w.2.1, rdw h0.w.2.1]
  have h16 := hs.2.2
  have h6 := hs.2.1
  rcases ev_nE (N := N) (l := l) (n := n) (t := t) (c := c) (q0 := q0) (wd := wd) (f := f) (top := top) (ne := 1) v5 hP5 (by rw [rdf (by decide), rdf (by decide), rdf (by decide), rdf (by decide), rdf (by decide)]; exact h18) hq0 (by rw [rdw h0.w.1, rdw h0.w.1, rdw h0.w.1, rdw h0.w.1, rdw h0.w.1]; exact hw) hwd (fun _ => hf) hc16 hl hn (by rw [rdw h0.w.1, rdw h0.w.1, rdw h0.w.1, rdw h0.w.1, rdw h0.w.1]; exact ht) ht2 (.inr rfl) (top - k0) k0 N (by omega) (by omega) with ⟨k', a1, a2, a3, a4, a5⟩ | ⟨a1, a2⟩
  · rw [er, em] at a3 a4
    rw [en] at a5
    refine .inl ⟨k', a1, a2, a3, a4, _, VR.one h0 hs.1 (by omega) hp hs.2.2 hc (by decide) (by decide) (hb.trans a5) h0.1, by repeat (first | exact same.rf | refine same.sD ?_ (by unfold EXP; omega)), ⟨?_, ?_, ?_⟩, ?_, ?_⟩ <;> simp [sD_D, up2, h16, h6]
  · rw [er, em] at a1
    refine .inr ⟨a1, _, VR.one h0 hs.1 (by omega) hp hs.2.2 hc (by decide) (by decide) (hb.trans a2) h0.1, by repeat (first | exact same.rf | refine same.sD ?_ (by unfold EXO; omega)), ⟨?_, ?_, ?_⟩⟩ <;> simp [sD_D, up2, h16, h6]
end Par
