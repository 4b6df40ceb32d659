def y_Row_init : ab_Y := (⟨"WorldEngine$Row", "<init>", "()V"⟩, prog_8_method_1_code, 1, none, [])
theorem d_Row_init_0 : decode y_Row_init.2.1 0 = .ok (.aload_n 0, 1) := by decide +kernel
theorem d_Row_init_1 : decode y_Row_init.2.1 1 = .ok (.invokespecial 3, 3) := by decide +kernel
theorem d_Row_init_4 : decode y_Row_init.2.1 4 = .ok (.aload_n 0, 1) := by decide +kernel
theorem d_Row_init_5 : decode y_Row_init.2.1 5 = .ok (.sipush 704, 3) := by decide +kernel
theorem d_Row_init_8 : decode y_Row_init.2.1 8 = .ok (.newarray .int, 2) := by decide +kernel
theorem d_Row_init_10 : decode y_Row_init.2.1 10 = .ok (.putfield 11, 3) := by decide +kernel
theorem d_Row_init_13 : decode y_Row_init.2.1 13 = .ok (.aload_n 0, 1) := by decide +kernel
theorem d_Row_init_14 : decode y_Row_init.2.1 14 = .ok (.sipush 160, 3) := by decide +kernel
theorem d_Row_init_17 : decode y_Row_init.2.1 17 = .ok (.newarray .int, 2) := by decide +kernel
theorem d_Row_init_19 : decode y_Row_init.2.1 19 = .ok (.putfield 15, 3) := by decide +kernel
theorem d_Row_init_22 : decode y_Row_init.2.1 22 = .ok (.aload_n 0, 1) := by decide +kernel
theorem d_Row_init_23 : decode y_Row_init.2.1 23 = .ok (.bipush 12, 2) := by decide +kernel
theorem d_Row_init_25 : decode y_Row_init.2.1 25 = .ok (.newarray .int, 2) := by decide +kernel
theorem d_Row_init_27 : decode y_Row_init.2.1 27 = .ok (.putfield 18, 3) := by decide +kernel
theorem d_Row_init_30 : decode y_Row_init.2.1 30 = .ok (.aload_n 0, 1) := by decide +kernel
theorem d_Row_init_31 : decode y_Row_init.2.1 31 = .ok (.bipush 21, 2) := by decide +kernel
theorem d_Row_init_33 : decode y_Row_init.2.1 33 = .ok (.newarray .int, 2) := by decide +kernel
theorem d_Row_init_35 : decode y_Row_init.2.1 35 = .ok (.putfield 21, 3) := by decide +kernel
theorem d_Row_init_38 : decode y_Row_init.2.1 38 = .ok (.aload_n 0, 1) := by decide +kernel
theorem d_Row_init_39 : decode y_Row_init.2.1 39 = .ok (.bipush 21, 2) := by decide +kernel
theorem d_Row_init_41 : decode y_Row_init.2.1 41 = .ok (.newarray .int, 2) := by decide +kernel
theorem d_Row_init_43 : decode y_Row_init.2.1 43 = .ok (.putfield 24, 3) := by decide +kernel
theorem d_Row_init_46 : decode y_Row_init.2.1 46 = .ok (.aload_n 0, 1) := by decide +kernel
theorem d_Row_init_47 : decode y_Row_init.2.1 47 = .ok (.bipush 11, 2) := by decide +kernel
theorem d_Row_init_49 : decode y_Row_init.2.1 49 = .ok (.newarray .int, 2) := by decide +kernel
theorem d_Row_init_51 : decode y_Row_init.2.1 51 = .ok (.putfield 27, 3) := by decide +kernel
theorem d_Row_init_54 : decode y_Row_init.2.1 54 = .ok (.aload_n 0, 1) := by decide +kernel
theorem d_Row_init_55 : decode y_Row_init.2.1 55 = .ok (.bipush 48, 2) := by decide +kernel
theorem d_Row_init_57 : decode y_Row_init.2.1 57 = .ok (.newarray .int, 2) := by decide +kernel
theorem d_Row_init_59 : decode y_Row_init.2.1 59 = .ok (.putfield 32, 3) := by decide +kernel
theorem d_Row_init_62 : decode y_Row_init.2.1 62 = .ok (.return_, 1) := by decide +kernel
theorem s_Row_init : ab_Stat y_Row_init 0 := ⟨(k2 58 rfl rfl), (k1 13 rfl rfl), ⟨by decide, by decide⟩, by decide +kernel⟩
theorem i_Row_init : Cond.instanceMethod y_Row_init.1 ∈ ab_T := (k2 57 rfl rfl)
def F_Row_init (N : Nat) (p0 : Nat) (H : Hp) : Option (Unit × Hp) :=
    ck (¬ (704 : Int32) < 0) <|
    ck (((704 : Int32)).toNatClampNeg * 4 ≤ 536870912) <|
    bnd (H.nw (100, ((704 : Int32)).toNatClampNeg) ((704 : Int32)).toNatClampNeg) fun H3 =>
    bnd H.sh.length fun a4 =>
    ck (H3.sh[p0]? = some (8, 0)) <|
    bnd (H3.sP p0 0 (.ref a4)) fun H6 =>
    ck (¬ (160 : Int32) < 0) <|
    ck (((160 : Int32)).toNatClampNeg * 4 ≤ 536870912) <|
    bnd (H6.nw (100, ((160 : Int32)).toNatClampNeg) ((160 : Int32)).toNatClampNeg) fun H9 =>
    bnd H6.sh.length fun a10 =>
    bnd (H9.sP p0 5 (.ref a10)) fun H11 =>
    ck (¬ (12 : Int32) < 0) <|
    ck (((12 : Int32)).toNatClampNeg * 4 ≤ 536870912) <|
    bnd (H11.nw (100, ((12 : Int32)).toNatClampNeg) ((12 : Int32)).toNatClampNeg) fun H14 =>
    bnd H11.sh.length fun a15 =>
    bnd (H14.sP p0 7 (.ref a15)) fun H16 =>
    ck (¬ (21 : Int32) < 0) <|
    ck (((21 : Int32)).toNatClampNeg * 4 ≤ 536870912) <|
    bnd (H16.nw (100, ((21 : Int32)).toNatClampNeg) ((21 : Int32)).toNatClampNeg) fun H19 =>
    bnd H16.sh.length fun a20 =>
    bnd (H19.sP p0 8 (.ref a20)) fun H21 =>
    ck (¬ (21 : Int32) < 0) <|
    ck (((21 : Int32)).toNatClampNeg * 4 ≤ 536870912) <|
    bnd (H21.nw (100, ((21 : Int32)).toNatClampNeg) ((21 : Int32)).toNatClampNeg) fun H24 =>
    bnd H21.sh.length fun a25 =>
    bnd (H24.sP p0 9 (.ref a25)) fun H26 =>
    ck (¬ (11 : Int32) < 0) <|
    ck (((11 : Int32)).toNatClampNeg * 4 ≤ 536870912) <|
    bnd (H26.nw (100, ((11 : Int32)).toNatClampNeg) ((11 : Int32)).toNatClampNeg) fun H29 =>
    bnd H26.sh.length fun a30 =>
    bnd (H29.sP p0 10 (.ref a30)) fun H31 =>
    ck (¬ (48 : Int32) < 0) <|
    ck (((48 : Int32)).toNatClampNeg * 4 ≤ 536870912) <|
    bnd (H31.nw (100, ((48 : Int32)).toNatClampNeg) ((48 : Int32)).toNatClampNeg) fun H34 =>
    bnd H31.sh.length fun a35 =>
    bnd (H34.sP p0 11 (.ref a35)) fun H36 =>
    some ((), H36)
set_option maxRecDepth 20000 in
set_option maxHeartbeats 2000000 in
theorem m_Row_init {N : Nat} {p0 : Nat} {H : Hp} {r : Unit × Hp} (hF : F_Row_init N p0 H = some r) : Mo H r.2 := by
  unfold F_Row_init at hF
  have hm := Mo.rf H
  obtain ⟨q37, hG⟩ := ck_s hF; clear hF
  obtain ⟨q38, hF⟩ := ck_s hG; clear hG
  obtain ⟨H39, eH39, hG⟩ := bnd_g hF; clear hF
  replace hm : Mo H H39 := hm.tr (by rw [eH39]; exact Mo.nw _ _ _)
  obtain ⟨a40, -, hF⟩ := bnd_g hG; clear hG
  obtain ⟨q41, hG⟩ := ck_s hF; clear hF
  obtain ⟨H42, eH42, hF⟩ := bnd_g hG; clear hG
  replace hm : Mo H H42 := by rw [eH42]; exact hm
  obtain ⟨q43, hG⟩ := ck_s hF; clear hF
  obtain ⟨q44, hF⟩ := ck_s hG; clear hG
  obtain ⟨H45, eH45, hG⟩ := bnd_g hF; clear hF
  replace hm : Mo H H45 := hm.tr (by rw [eH45]; exact Mo.nw _ _ _)
  obtain ⟨a46, -, hF⟩ := bnd_g hG; clear hG
  obtain ⟨H47, eH47, hG⟩ := bnd_g hF; clear hF
  replace hm : Mo H H47 := by rw [eH47]; exact hm
  obtain ⟨q48, hF⟩ := ck_s hG; clear hG
  obtain ⟨q49, hG⟩ := ck_s hF; clear hF
  obtain ⟨H50, eH50, hF⟩ := bnd_g hG; clear hG
  replace hm : Mo H H50 := hm.tr (by rw [eH50]; exact Mo.nw _ _ _)
  obtain ⟨a51, -, hG⟩ := bnd_g hF; clear hF
  obtain ⟨H52, eH52, hF⟩ := bnd_g hG; clear hG
  replace hm : Mo H H52 := by rw [eH52]; exact hm
  obtain ⟨q53, hG⟩ := ck_s hF; clear hF
  obtain ⟨q54, hF⟩ := ck_s hG; clear hG
  obtain ⟨H55, eH55, hG⟩ := bnd_g hF; clear hF
  replace hm : Mo H H55 := hm.tr (by rw [eH55]; exact Mo.nw _ _ _)
  obtain ⟨a56, -, hF⟩ := bnd_g hG; clear hG
  obtain ⟨H57, eH57, hG⟩ := bnd_g hF; clear hF
  replace hm : Mo H H57 := by rw [eH57]; exact hm
  obtain ⟨q58, hF⟩ := ck_s hG; clear hG
  obtain ⟨q59, hG⟩ := ck_s hF; clear hF
  obtain ⟨H60, eH60, hF⟩ := bnd_g hG; clear hG
  replace hm : Mo H H60 := hm.tr (by rw [eH60]; exact Mo.nw _ _ _)
  obtain ⟨a61, -, hG⟩ := bnd_g hF; clear hF
  obtain ⟨H62, eH62, hF⟩ := bnd_g hG; clear hG
  replace hm : Mo H H62 := by rw [eH62]; exact hm
  obtain ⟨q63, hG⟩ := ck_s hF; clear hF
  obtain ⟨q64, hF⟩ := ck_s hG; clear hG
  obtain ⟨H65, eH65, hG⟩ := bnd_g hF; clear hF
  replace hm : Mo H H65 := hm.tr (by rw [eH65]; exact Mo.nw _ _ _)
  obtain ⟨a66, -, hF⟩ := bnd_g hG; clear hG
  obtain ⟨H67, eH67, hG⟩ := bnd_g hF; clear hF
  replace hm : Mo H H67 := by rw [eH67]; exact hm
  obtain ⟨q68, hF⟩ := ck_s hG; clear hG
  obtain ⟨q69, hG⟩ := ck_s hF; clear hF
  obtain ⟨H70, eH70, hF⟩ := bnd_g hG; clear hG
  replace hm : Mo H H70 := hm.tr (by rw [eH70]; exact Mo.nw _ _ _)
  obtain ⟨a71, -, hG⟩ := bnd_g hF; clear hF
  obtain ⟨H72, eH72, hF⟩ := bnd_g hG; clear hG
  replace hm : Mo H H72 := by rw [eH72]; exact hm
  have hr := Option.some.inj hF; subst hr
  exact hm
set_option maxRecDepth 20000 in
set_option maxHeartbeats 2000000 in
theorem k_Row_init {N : Nat} {p0 : Nat} {H : Hp} {r : Unit × Hp} {C Sl : Nat} (hF : F_Row_init N p0 H = some r) (hC : r.2.sh.length ≤ H.sh.length + C) (hS : r.2.sl ≤ H.sl + Sl) : ab_M y_Row_init { frames := 1, cells := C, slots := Sl, locals := 60 } [.ref p0] (hpw H) (po (.returned none) r.2) := by
  unfold F_Row_init at hF
  obtain ⟨c0, e0⟩ : ∃ q, q = H.sh.length := ⟨_, rfl⟩
  obtain ⟨s0, e1⟩ : ∃ q, q = H.sl := ⟨_, rfl⟩
  rw [← e0] at hC
  rw [← e1] at hS
  have hc0 : c0 ≤ H.sh.length := Nat.le_of_eq e0
  have hs0 : s0 ≤ H.sl := Nat.le_of_eq e1
  have hcc : H.sh.length ≤ c0 + C := by omega
  have hss : H.sl ≤ s0 + Sl := by omega
  refine ab_of2 (lv := [some (.ref p0)]) 0 rfl rfl (Nat.le_of_ble_eq_true rfl) ?_
  refine ab_widen (cells' := H.sh.length - c0) (slots' := H.sl - s0) (Nat.zero_le _) (Nat.zero_le _) ?_
  refine ab_aload_n d_Row_init_0 rfl rfl rfl ?_
  refine ab_objInit d_Row_init_1 (k2 59 rfl rfl) (k1 37 rfl rfl) (k1 38 rfl rfl) (Nat.le_of_ble_eq_true rfl) (Nat.le_of_ble_eq_true rfl) ?_
  refine ab_aload_n d_Row_init_4 rfl rfl rfl ?_
  refine ab_sipush (v := 704) d_Row_init_5 (by decide) ?_
  obtain ⟨q1, hG⟩ := ck_s hF; clear hF
  obtain ⟨q2, hF⟩ := ck_s hG; clear hG
  obtain ⟨H3, eH3, hG⟩ := bnd_g hF; clear hF
  obtain ⟨a4, ea4, hF⟩ := bnd_g hG; clear hG
  have m_1 : Mo H H3 := by rw [eH3]; exact Mo.nw _ _ _
  have b_2l := (m_1).len
  have b_2s := (m_1).2
  have b_2c : c0 ≤ H3.sh.length := by omega
  have b_2d : s0 ≤ H3.sl := by omega
  have b_2x : H3.sh.length = H.sh.length + 1 := by rw [eH3]; simp [Hp.nw, mkH_sh]
  have b_2y : H3.sl = H.sl + ((704 : Int32)).toNatClampNeg := by rw [eH3]; rfl
  obtain ⟨q5, hG⟩ := ck_s hF; clear hF
  obtain ⟨H6, eH6, hF⟩ := bnd_g hG; clear hG
  have jH6 : Mo H3 H6 := by rw [eH6]; exact Mo.rf _
  obtain ⟨q7, hG⟩ := ck_s hF; clear hF
  obtain ⟨q8, hF⟩ := ck_s hG; clear hG
  obtain ⟨H9, eH9, hG⟩ := bnd_g hF; clear hF
  obtain ⟨a10, ea10, hF⟩ := bnd_g hG; clear hG
  have jH9 : Mo H6 H9 := by rw [eH9]; exact Mo.nw _ _ _
  obtain ⟨H11, eH11, hG⟩ := bnd_g hF; clear hF
  have jH11 : Mo H9 H11 := by rw [eH11]; exact Mo.rf _
  obtain ⟨q12, hF⟩ := ck_s hG; clear hG
  obtain ⟨q13, hG⟩ := ck_s hF; clear hF
  obtain ⟨H14, eH14, hF⟩ := bnd_g hG; clear hG
  obtain ⟨a15, ea15, hG⟩ := bnd_g hF; clear hF
  have jH14 : Mo H11 H14 := by rw [eH14]; exact Mo.nw _ _ _
  obtain ⟨H16, eH16, hF⟩ := bnd_g hG; clear hG
  have jH16 : Mo H14 H16 := by rw [eH16]; exact Mo.rf _
  obtain ⟨q17, hG⟩ := ck_s hF; clear hF
  obtain ⟨q18, hF⟩ := ck_s hG; clear hG
  obtain ⟨H19, eH19, hG⟩ := bnd_g hF; clear hF
  obtain ⟨a20, ea20, hF⟩ := bnd_g hG; clear hG
  have jH19 : Mo H16 H19 := by rw [eH19]; exact Mo.nw _ _ _
  obtain ⟨H21, eH21, hG⟩ := bnd_g hF; clear hF
  have jH21 : Mo H19 H21 := by rw [eH21]; exact Mo.rf _
  obtain ⟨q22, hF⟩ := ck_s hG; clear hG
  obtain ⟨q23, hG⟩ := ck_s hF; clear hF
  obtain ⟨H24, eH24, hF⟩ := bnd_g hG; clear hG
  obtain ⟨a25, ea25, hG⟩ := bnd_g hF; clear hF
  have jH24 : Mo H21 H24 := by rw [eH24]; exact Mo.nw _ _ _
  obtain ⟨H26, eH26, hF⟩ := bnd_g hG; clear hG
  have jH26 : Mo H24 H26 := by rw [eH26]; exact Mo.rf _
  obtain ⟨q27, hG⟩ := ck_s hF; clear hF
  obtain ⟨q28, hF⟩ := ck_s hG; clear hG
  obtain ⟨H29, eH29, hG⟩ := bnd_g hF; clear hF
  obtain ⟨a30, ea30, hF⟩ := bnd_g hG; clear hG
  have jH29 : Mo H26 H29 := by rw [eH29]; exact Mo.nw _ _ _
  obtain ⟨H31, eH31, hG⟩ := bnd_g hF; clear hF
  have jH31 : Mo H29 H31 := by rw [eH31]; exact Mo.rf _
  obtain ⟨q32, hF⟩ := ck_s hG; clear hG
  obtain ⟨q33, hG⟩ := ck_s hF; clear hF
  obtain ⟨H34, eH34, hF⟩ := bnd_g hG; clear hG
  obtain ⟨a35, ea35, hG⟩ := bnd_g hF; clear hF
  have jH34 : Mo H31 H34 := by rw [eH34]; exact Mo.nw _ _ _
  obtain ⟨H36, eH36, hF⟩ := bnd_g hG; clear hG
  have jH36 : Mo H34 H36 := by rw [eH36]; exact Mo.rf _
  have fH36 : Mo H36 r.2 := by
    have hm := Mo.rf H36
    have hr := Option.some.inj hF; subst hr
    exact hm
  have fH34 : Mo H34 r.2 := jH36.tr fH36
  have fH31 : Mo H31 r.2 := jH34.tr fH34
  have fH29 : Mo H29 r.2 := jH31.tr fH31
  have fH26 : Mo H26 r.2 := jH29.tr fH29
  have fH24 : Mo H24 r.2 := jH26.tr fH26
  have fH21 : Mo H21 r.2 := jH24.tr fH24
  have fH19 : Mo H19 r.2 := jH21.tr fH21
  have fH16 : Mo H16 r.2 := jH19.tr fH19
  have fH14 : Mo H14 r.2 := jH16.tr fH16
  have fH11 : Mo H11 r.2 := jH14.tr fH14
  have fH9 : Mo H9 r.2 := jH11.tr fH11
  have fH6 : Mo H6 r.2 := jH9.tr fH9
  have fH3 : Mo H3 r.2 := jH6.tr fH6
  have b_2m := (fH3).len
  have b_2n := (fH3).2
  have b_2p : H3.sh.length ≤ c0 + C := by omega
  have b_2q : H3.sl ≤ s0 + Sl := by omega
  refine hp_newa (q := 100) d_Row_init_8 rfl (k1 143 rfl rfl) tI (Or.inl rfl) ⟨by decide, by decide, rfl⟩ rfl q1 q2 (by show _ ≤ C; omega) (by show _ + ((704 : Int32)).toNatClampNeg ≤ Sl; omega) ?_
  refine ab_widen (cells' := H3.sh.length - c0) (slots' := H3.sl - s0) (by omega) (by show _ + ((704 : Int32)).toNatClampNeg ≤ _; omega) ?_
  rw [← eH3, ← ea4]
  clear b_2l b_2s b_2x b_2y b_2m b_2n
  refine hp_putP (v := .ref a4) (f := 0) d_Row_init_10 q5 (by decide) rfl (by decide) (k2 60 rfl rfl) rfl rfl (fun _ => rfl) (fun _ => rfl) rfl ?_
  refine hp_genx eH6 ?_
  have s_16 : Sa H3 H6 := by rw [eH6]; exact Sa.rf _
  refine ab_aload_n d_Row_init_13 rfl rfl rfl ?_
  refine ab_sipush (v := 160) d_Row_init_14 (by decide) ?_
  have m_17 : Mo H6 H9 := by rw [eH9]; exact Mo.nw _ _ _
  have b_18l := (m_17).len
  have b_18s := (m_17).2
  have b_18e := congrArg List.length (s_16).1
  have b_18f := (s_16).2
  have b_18c : c0 ≤ H9.sh.length := by omega
  have b_18d : s0 ≤ H9.sl := by omega
  have b_18x : H9.sh.length = H6.sh.length + 1 := by rw [eH9]; simp [Hp.nw, mkH_sh]
  have b_18y : H9.sl = H6.sl + ((160 : Int32)).toNatClampNeg := by rw [eH9]; rfl
  have q_19 := (m_17).get (by rw [(s_16).1]; exact q5)
  have b_18m := (fH9).len
  have b_18n := (fH9).2
  have b_18p : H9.sh.length ≤ c0 + C := by omega
  have b_18q : H9.sl ≤ s0 + Sl := by omega
  refine ab_widen (cells' := H6.sh.length - c0) (slots' := H6.sl - s0) (by rw [(s_16).1]; exact Nat.le_refl _) (by rw [(s_16).2]; exact Nat.le_refl _) ?_
  refine hp_newa (q := 100) d_Row_init_17 rfl (k1 143 rfl rfl) tI (Or.inl rfl) ⟨by decide, by decide, rfl⟩ rfl q7 q8 (by show _ ≤ C; omega) (by show _ + ((160 : Int32)).toNatClampNeg ≤ Sl; omega) ?_
  refine ab_widen (cells' := H9.sh.length - c0) (slots' := H9.sl - s0) (by omega) (by show _ + ((160 : Int32)).toNatClampNeg ≤ _; omega) ?_
  rw [← eH9, ← ea10]
  clear b_18l b_18s b_18x b_18y b_18m b_18n b_18e b_18f b_2c b_2d b_2p b_2q
  refine hp_putFP (v := .ref a10) (f := 5) d_Row_init_19 q_19 (by decide) rfl (by decide) (k2 67 rfl rfl) rfl rfl rfl rfl (fun _ => rfl) (fun _ => rfl) rfl ?_
  refine hp_genx eH11 ?_
  have s_20 : Sa H9 H11 := by rw [eH11]; exact Sa.rf _
  refine ab_aload_n d_Row_init_22 rfl rfl rfl ?_
  refine ab_bipush (v := 12) d_Row_init_23 (by decide) ?_
  have m_21 : Mo H11 H14 := by rw [eH14]; exact Mo.nw _ _ _
  have b_22l := (m_21).len
  have b_22s := (m_21).2
  have b_22e := congrArg List.length (s_20).1
  have b_22f := (s_20).2
  have b_22c : c0 ≤ H14.sh.length := by omega
  have b_22d : s0 ≤ H14.sl := by omega
  have b_22x : H14.sh.length = H11.sh.length + 1 := by rw [eH14]; simp [Hp.nw, mkH_sh]
  have b_22y : H14.sl = H11.sl + ((12 : Int32)).toNatClampNeg := by rw [eH14]; rfl
  have q_23 := (m_21).get (by rw [(s_20).1]; exact q_19)
  have b_22m := (fH14).len
  have b_22n := (fH14).2
  have b_22p : H14.sh.length ≤ c0 + C := by omega
  have b_22q : H14.sl ≤ s0 + Sl := by omega
  refine ab_widen (cells' := H11.sh.length - c0) (slots' := H11.sl - s0) (by rw [(s_20).1]; exact Nat.le_refl _) (by rw [(s_20).2]; exact Nat.le_refl _) ?_
  refine hp_newa (q := 100) d_Row_init_25 rfl (k1 143 rfl rfl) tI (Or.inl rfl) ⟨by decide, by decide, rfl⟩ rfl q12 q13 (by show _ ≤ C; omega) (by show _ + ((12 : Int32)).toNatClampNeg ≤ Sl; omega) ?_
  refine ab_widen (cells' := H14.sh.length - c0) (slots' := H14.sl - s0) (by omega) (by show _ + ((12 : Int32)).toNatClampNeg ≤ _; omega) ?_
  rw [← eH14, ← ea15]
  clear b_22l b_22s b_22x b_22y b_22m b_22n b_22e b_22f b_18c b_18d b_18p b_18q
  refine hp_putFP (v := .ref a15) (f := 7) d_Row_init_27 q_23 (by decide) rfl (by decide) (k2 69 rfl rfl) rfl rfl rfl rfl (fun _ => rfl) (fun _ => rfl) rfl ?_
  refine hp_genx eH16 ?_
  have s_24 : Sa H14 H16 := by rw [eH16]; exact Sa.rf _
  refine ab_aload_n d_Row_init_30 rfl rfl rfl ?_
  refine ab_bipush (v := 21) d_Row_init_31 (by decide) ?_
  have m_25 : Mo H16 H19 := by rw [eH19]; exact Mo.nw _ _ _
  have b_26l := (m_25).len
  have b_26s := (m_25).2
  have b_26e := congrArg List.length (s_24).1
  have b_26f := (s_24).2
  have b_26c : c0 ≤ H19.sh.length := by omega
  have b_26d : s0 ≤ H19.sl := by omega
  have b_26x : H19.sh.length = H16.sh.length + 1 := by rw [eH19]; simp [Hp.nw, mkH_sh]
  have b_26y : H19.sl = H16.sl + ((21 : Int32)).toNatClampNeg := by rw [eH19]; rfl
  have q_27 := (m_25).get (by rw [(s_24).1]; exact q_23)
  have b_26m := (fH19).len
  have b_26n := (fH19).2
  have b_26p : H19.sh.length ≤ c0 + C := by omega
  have b_26q : H19.sl ≤ s0 + Sl := by omega
  refine ab_widen (cells' := H16.sh.length - c0) (slots' := H16.sl - s0) (by rw [(s_24).1]; exact Nat.le_refl _) (by rw [(s_24).2]; exact Nat.le_refl _) ?_
  refine hp_newa (q := 100) d_Row_init_33 rfl (k1 143 rfl rfl) tI (Or.inl rfl) ⟨by decide, by decide, rfl⟩ rfl q17 q18 (by show _ ≤ C; omega) (by show _ + ((21 : Int32)).toNatClampNeg ≤ Sl; omega) ?_
  refine ab_widen (cells' := H19.sh.length - c0) (slots' := H19.sl - s0) (by omega) (by show _ + ((21 : Int32)).toNatClampNeg ≤ _; omega) ?_
  rw [← eH19, ← ea20]
  clear b_26l b_26s b_26x b_26y b_26m b_26n b_26e b_26f b_22c b_22d b_22p b_22q
  refine hp_putFP (v := .ref a20) (f := 8) d_Row_init_35 q_27 (by decide) rfl (by decide) (k2 70 rfl rfl) rfl rfl rfl rfl (fun _ => rfl) (fun _ => rfl) rfl ?_
  refine hp_genx eH21 ?_
  have s_28 : Sa H19 H21 := by rw [eH21]; exact Sa.rf _
  refine ab_aload_n d_Row_init_38 rfl rfl rfl ?_
  refine ab_bipush (v := 21) d_Row_init_39 (by decide) ?_
  have m_29 : Mo H21 H24 := by rw [eH24]; exact Mo.nw _ _ _
  have b_30l := (m_29).len
  have b_30s := (m_29).2
  have b_30e := congrArg List.length (s_28).1
  have b_30f := (s_28).2
  have b_30c : c0 ≤ H24.sh.length := by omega
  have b_30d : s0 ≤ H24.sl := by omega
  have b_30x : H24.sh.length = H21.sh.length + 1 := by rw [eH24]; simp [Hp.nw, mkH_sh]
  have b_30y : H24.sl = H21.sl + ((21 : Int32)).toNatClampNeg := by rw [eH24]; rfl
  have q_31 := (m_29).get (by rw [(s_28).1]; exact q_27)
  have b_30m := (fH24).len
  have b_30n := (fH24).2
  have b_30p : H24.sh.length ≤ c0 + C := by omega
  have b_30q : H24.sl ≤ s0 + Sl := by omega
  refine ab_widen (cells' := H21.sh.length - c0) (slots' := H21.sl - s0) (by rw [(s_28).1]; exact Nat.le_refl _) (by rw [(s_28).2]; exact Nat.le_refl _) ?_
  refine hp_newa (q := 100) d_Row_init_41 rfl (k1 143 rfl rfl) tI (Or.inl rfl) ⟨by decide, by decide, rfl⟩ rfl q22 q23 (by show _ ≤ C; omega) (by show _ + ((21 : Int32)).toNatClampNeg ≤ Sl; omega) ?_
  refine ab_widen (cells' := H24.sh.length - c0) (slots' := H24.sl - s0) (by omega) (by show _ + ((21 : Int32)).toNatClampNeg ≤ _; omega) ?_
  rw [← eH24, ← ea25]
  clear b_30l b_30s b_30x b_30y b_30m b_30n b_30e b_30f b_26c b_26d b_26p b_26q
  refine hp_putFP (v := .ref a25) (f := 9) d_Row_init_43 q_31 (by decide) rfl (by decide) (k2 71 rfl rfl) rfl rfl rfl rfl (fun _ => rfl) (fun _ => rfl) rfl ?_
  refine hp_genx eH26 ?_
  have s_32 : Sa H24 H26 := by rw [eH26]; exact Sa.rf _
  refine ab_aload_n d_Row_init_46 rfl rfl rfl ?_
  refine ab_bipush (v := 11) d_Row_init_47 (by decide) ?_
  have m_33 : Mo H26 H29 := by rw [eH29]; exact Mo.nw _ _ _
  have b_34l := (m_33).len
  have b_34s := (m_33).2
  have b_34e := congrArg List.length (s_32).1
  have b_34f := (s_32).2
  have b_34c : c0 ≤ H29.sh.length := by omega
  have b_34d : s0 ≤ H29.sl := by omega
  have b_34x : H29.sh.length = H26.sh.length + 1 := by rw [eH29]; simp [Hp.nw, mkH_sh]
  have b_34y : H29.sl = H26.sl + ((11 : Int32)).toNatClampNeg := by rw [eH29]; rfl
  have q_35 := (m_33).get (by rw [(s_32).1]; exact q_31)
  have b_34m := (fH29).len
  have b_34n := (fH29).2
  have b_34p : H29.sh.length ≤ c0 + C := by omega
  have b_34q : H29.sl ≤ s0 + Sl := by omega
  refine ab_widen (cells' := H26.sh.length - c0) (slots' := H26.sl - s0) (by rw [(s_32).1]; exact Nat.le_refl _) (by rw [(s_32).2]; exact Nat.le_refl _) ?_
  refine hp_newa (q := 100) d_Row_init_49 rfl (k1 143 rfl rfl) tI (Or.inl rfl) ⟨by decide, by decide, rfl⟩ rfl q27 q28 (by show _ ≤ C; omega) (by show _ + ((11 : Int32)).toNatClampNeg ≤ Sl; omega) ?_
  refine ab_widen (cells' := H29.sh.length - c0) (slots' := H29.sl - s0) (by omega) (by show _ + ((11 : Int32)).toNatClampNeg ≤ _; omega) ?_
  rw [← eH29, ← ea30]
  clear b_34l b_34s b_34x b_34y b_34m b_34n b_34e b_34f b_30c b_30d b_30p b_30q
  refine hp_putFP (v := .ref a30) (f := 10) d_Row_init_51 q_35 (by decide) rfl (by decide) (k2 72 rfl rfl) rfl rfl rfl rfl (fun _ => rfl) (fun _ => rfl) rfl ?_
  refine hp_genx eH31 ?_
  have s_36 : Sa H29 H31 := by rw [eH31]; exact Sa.rf _
  refine ab_aload_n d_Row_init_54 rfl rfl rfl ?_
  refine ab_bipush (v := 48) d_Row_init_55 (by decide) ?_
  have m_37 : Mo H31 H34 := by rw [eH34]; exact Mo.nw _ _ _
  have b_38l := (m_37).len
  have b_38s := (m_37).2
  have b_38e := congrArg List.length (s_36).1
  have b_38f := (s_36).2
  have b_38c : c0 ≤ H34.sh.length := by omega
  have b_38d : s0 ≤ H34.sl := by omega
  have b_38x : H34.sh.length = H31.sh.length + 1 := by rw [eH34]; simp [Hp.nw, mkH_sh]
  have b_38y : H34.sl = H31.sl + ((48 : Int32)).toNatClampNeg := by rw [eH34]; rfl
  have q_39 := (m_37).get (by rw [(s_36).1]; exact q_35)
  have b_38m := (fH34).len
  have b_38n := (fH34).2
  have b_38p : H34.sh.length ≤ c0 + C := by omega
  have b_38q : H34.sl ≤ s0 + Sl := by omega
  refine ab_widen (cells' := H31.sh.length - c0) (slots' := H31.sl - s0) (by rw [(s_36).1]; exact Nat.le_refl _) (by rw [(s_36).2]; exact Nat.le_refl _) ?_
  refine hp_newa (q := 100) d_Row_init_57 rfl (k1 143 rfl rfl) tI (Or.inl rfl) ⟨by decide, by decide, rfl⟩ rfl q32 q33 (by show _ ≤ C; omega) (by show _ + ((48 : Int32)).toNatClampNeg ≤ Sl; omega) ?_
  refine ab_widen (cells' := H34.sh.length - c0) (slots' := H34.sl - s0) (by omega) (by show _ + ((48 : Int32)).toNatClampNeg ≤ _; omega) ?_
  rw [← eH34, ← ea35]
  clear b_38l b_38s b_38x b_38y b_38m b_38n b_38e b_38f b_34c b_34d b_34p b_34q
  refine hp_putFP (v := .ref a35) (f := 11) d_Row_init_59 q_39 (by decide) rfl (by decide) (k2 73 rfl rfl) rfl rfl rfl rfl (fun _ => rfl) (fun _ => rfl) rfl ?_
  refine hp_genx eH36 ?_
  have s_40 : Sa H34 H36 := by rw [eH36]; exact Sa.rf _
  exact ab_vret d_Row_init_62 rfl (by show _ ≤ C; omega) (by show _ ≤ Sl; omega) (by have hr := Option.some.inj hF; subst hr; exact ⟨rfl, rfl⟩)
def y_Ticker_init : ab_Y := (⟨"WorldEngine$Ticker", "<init>", "()V"⟩, prog_11_method_1_code, 1, none, [])
theorem d_Ticker_init_0 : decode y_Ticker_init.2.1 0 = .ok (.aload_n 0, 1) := by decide +kernel
theorem d_Ticker_init_1 : decode y_Ticker_init.2.1 1 = .ok (.invokespecial 1, 3) := by decide +kernel
theorem d_Ticker_init_4 : decode y_Ticker_init.2.1 4 = .ok (.aload_n 0, 1) := by decide +kernel
theorem d_Ticker_init_5 : decode y_Ticker_init.2.1 5 = .ok (.new 7, 3) := by decide +kernel
theorem d_Ticker_init_8 : decode y_Ticker_init.2.1 8 = .ok (.dup, 1) := by decide +kernel
theorem d_Ticker_init_9 : decode y_Ticker_init.2.1 9 = .ok (.invokespecial 9, 3) := by decide +kernel
theorem d_Ticker_init_12 : decode y_Ticker_init.2.1 12 = .ok (.putfield 10, 3) := by decide +kernel
theorem d_Ticker_init_15 : decode y_Ticker_init.2.1 15 = .ok (.return_, 1) := by decide +kernel
theorem s_Ticker_init : ab_Stat y_Ticker_init 0 := ⟨(k2 52 rfl rfl), (k1 12 rfl rfl), ⟨by decide, by decide⟩, by decide +kernel⟩
theorem i_Ticker_init : Cond.instanceMethod y_Ticker_init.1 ∈ ab_T := (k2 51 rfl rfl)
def F_Ticker_init (N : Nat) (p0 : Nat) (H : Hp) : Option (Unit × Hp) :=
    bnd (H.nw (8, 0) 19) fun H1 =>
    bnd H.sh.length fun a2 =>
    bC (F_Row_init N a2 H1) fun v4 H5 =>
    ck (H5.sh[p0]? = some (9, 0)) <|
    bnd (H5.sP p0 0 (.ref a2)) fun H7 =>
    some ((), H7)
set_option maxRecDepth 20000 in
set_option maxHeartbeats 2000000 in
theorem m_Ticker_init {N : Nat} {p0 : Nat} {H : Hp} {r : Unit × Hp} (hF : F_Ticker_init N p0 H = some r) : Mo H r.2 := by
  unfold F_Ticker_init at hF
  have hm := Mo.rf H
  obtain ⟨H8, eH8, hG⟩ := bnd_g hF; clear hF
  replace hm : Mo H H8 := hm.tr (by rw [eH8]; exact Mo.nw _ _ _)
  obtain ⟨a9, -, hF⟩ := bnd_g hG; clear hG
  obtain ⟨v11, H12, z10, hG⟩ := bC_s hF; clear hF
  replace hm : Mo H H12 := hm.tr (m_Row_init z10)
  obtain ⟨q13, hF⟩ := ck_s hG; clear hG
  obtain ⟨H14, eH14, hG⟩ := bnd_g hF; clear hF
  replace hm : Mo H H14 := by rw [eH14]; exact hm
  have hr := Option.some.inj hG; subst hr
  exact hm
set_option maxRecDepth 20000 in
set_option maxHeartbeats 2000000 in
theorem k_Ticker_init {N : Nat} {p0 : Nat} {H : Hp} {r : Unit × Hp} {C Sl : Nat} (hF : F_Ticker_init N p0 H = some r) (hC : r.2.sh.length ≤ H.sh.length + C) (hS : r.2.sl ≤ H.sl + Sl) : ab_M y_Ticker_init { frames := 2, cells := C, slots := Sl, locals := 80 } [.ref p0] (hpw H) (po (.returned none) r.2) := by
  unfold F_Ticker_init at hF
  obtain ⟨c0, e0⟩ : ∃ q, q = H.sh.length := ⟨_, rfl⟩
  obtain ⟨s0, e1⟩ : ∃ q, q = H.sl := ⟨_, rfl⟩
  rw [← e0] at hC
  rw [← e1] at hS
  have hc0 : c0 ≤ H.sh.length := Nat.le_of_eq e0
  have hs0 : s0 ≤ H.sl := Nat.le_of_eq e1
  have hcc : H.sh.length ≤ c0 + C := by omega
  have hss : H.sl ≤ s0 + Sl := by omega
  refine ab_of2 (lv := [some (.ref p0)]) 0 rfl rfl (Nat.le_of_ble_eq_true rfl) ?_
  refine ab_widen (cells' := H.sh.length - c0) (slots' := H.sl - s0) (Nat.zero_le _) (Nat.zero_le _) ?_
  refine ab_aload_n d_Ticker_init_0 rfl rfl rfl ?_
  refine ab_objInit d_Ticker_init_1 (k2 53 rfl rfl) (k1 37 rfl rfl) (k1 38 rfl rfl) (Nat.le_of_ble_eq_true rfl) (Nat.le_of_ble_eq_true rfl) ?_
  refine ab_aload_n d_Ticker_init_4 rfl rfl rfl ?_
  obtain ⟨H1, eH1, hG⟩ := bnd_g hF; clear hF
  obtain ⟨a2, ea2, hF⟩ := bnd_g hG; clear hG
  have m_1 : Mo H H1 := by rw [eH1]; exact Mo.nw _ _ _
  have b_2l := (m_1).len
  have b_2s := (m_1).2
  have b_2c : c0 ≤ H1.sh.length := by omega
  have b_2d : s0 ≤ H1.sl := by omega
  have b_2x : H1.sh.length = H.sh.length + 1 := by rw [eH1]; simp [Hp.nw, mkH_sh]
  have b_2y : H1.sl = H.sl + 19 := by rw [eH1]; rfl
  obtain ⟨v4, H5, z3, hG⟩ := bC_s hF; clear hF
  have jH5 : Mo H1 H5 := (m_Row_init z3)
  obtain ⟨q6, hF⟩ := ck_s hG; clear hG
  obtain ⟨H7, eH7, hG⟩ := bnd_g hF; clear hF
  have jH7 : Mo H5 H7 := by rw [eH7]; exact Mo.rf _
  have fH7 : Mo H7 r.2 := by
    have hm := Mo.rf H7
    have hr := Option.some.inj hG; subst hr
    exact hm
  have fH5 : Mo H5 r.2 := jH7.tr fH7
  have fH1 : Mo H1 r.2 := jH5.tr fH5
  have b_2m := (fH1).len
  have b_2n := (fH1).2
  have b_2p : H1.sh.length ≤ c0 + C := by omega
  have b_2q : H1.sl ≤ s0 + Sl := by omega
  refine hp_new (ci := 8) d_Ticker_init_5 rfl (k2 54 rfl rfl) (k2 55 rfl rfl) (k1 13 rfl rfl) rfl (by decide) (by decide) rfl (by show _ ≤ C; omega) (by show _ + 19 ≤ Sl; omega) ?_
  refine ab_widen (cells' := H1.sh.length - c0) (slots' := H1.sl - s0) (by omega) (by show _ + 19 ≤ _; omega) ?_
  rw [← eH1, ← ea2]
  clear b_2l b_2s b_2x b_2y b_2m b_2n
  refine ab_dup d_Ticker_init_8 rfl ?_
  have mz_5 : Mo H1 H5 := (m_Row_init z3)
  have b_6l := (mz_5).len
  have b_6s := (mz_5).2
  have b_6c : c0 ≤ H5.sh.length := by omega
  have b_6d : s0 ≤ H5.sl := by omega
  have b_6m := (fH5).len
  have b_6n := (fH5).2
  have b_6p : H5.sh.length ≤ c0 + C := by omega
  have b_6q : H5.sl ≤ s0 + Sl := by omega
  refine hp_callI_v (H1 := H5) (As := []) (rest := [.ref a2, .ref p0]) d_Ticker_init_9 (k_Row_init z3 (C := H5.sh.length - H1.sh.length) (Sl := H5.sl - H1.sl) (by show H5.sh.length ≤ _; omega) (by show H5.sl ≤ _; omega)) (ab_mkC s_Row_init (Nat.le_of_ble_eq_true rfl) (Nat.le_of_ble_eq_true rfl) (show (H1.sh.length - c0) + (H5.sh.length - H1.sh.length) ≤ C from by omega) (show (H1.sl - s0) + (H5.sl - H1.sl) ≤ Sl from by omega)) (k2 56 rfl rfl) i_Row_init rfl (k2 58 rfl rfl) rfl (Nat.le_of_ble_eq_true rfl) ?_
  refine ab_widen (cells' := H5.sh.length - c0) (slots' := H5.sl - s0) (by show _ + (H5.sh.length - H1.sh.length) ≤ _; omega) (by show _ + (H5.sl - H1.sl) ≤ _; omega) ?_
  clear b_6l b_6s b_6m b_6n b_2c b_2d b_2p b_2q
  refine hp_putFP (v := .ref a2) (f := 0) d_Ticker_init_12 q6 (by decide) rfl (by decide) (k2 120 rfl rfl) rfl rfl rfl rfl (fun _ => rfl) (fun _ => rfl) rfl ?_
  refine hp_genx eH7 ?_
  have s_7 : Sa H5 H7 := by rw [eH7]; exact Sa.rf _
  exact ab_vret d_Ticker_init_15 rfl (by show _ ≤ C; omega) (by show _ ≤ Sl; omega) (by have hr := Option.some.inj hG; subst hr; exact ⟨rfl, rfl⟩)
def y_Play_init : ab_Y := (⟨"WorldEngine$Play", "<init>", "()V"⟩, prog_5_method_1_code, 2, none, [])
theorem d_Play_init_0 : decode y_Play_init.2.1 0 = .ok (.aload_n 0, 1) := by decide +kernel
theorem d_Play_init_1 : decode y_Play_init.2.1 1 = .ok (.invokespecial 1, 3) := by decide +kernel
theorem d_Play_init_4 : decode y_Play_init.2.1 4 = .ok (.aload_n 0, 1) := by decide +kernel
theorem d_Play_init_5 : decode y_Play_init.2.1 5 = .ok (.new 7, 3) := by decide +kernel
theorem d_Play_init_8 : decode y_Play_init.2.1 8 = .ok (.dup, 1) := by decide +kernel
theorem d_Play_init_9 : decode y_Play_init.2.1 9 = .ok (.invokespecial 9, 3) := by decide +kernel
theorem d_Play_init_12 : decode y_Play_init.2.1 12 = .ok (.putfield 10, 3) := by decide +kernel
theorem d_Play_init_15 : decode y_Play_init.2.1 15 = .ok (.aload_n 0, 1) := by decide +kernel
theorem d_Play_init_16 : decode y_Play_init.2.1 16 = .ok (.bipush 16, 2) := by decide +kernel
theorem d_Play_init_18 : decode y_Play_init.2.1 18 = .ok (.anewarray 7, 3) := by decide +kernel
theorem d_Play_init_21 : decode y_Play_init.2.1 21 = .ok (.putfield 16, 3) := by decide +kernel
theorem d_Play_init_24 : decode y_Play_init.2.1 24 = .ok (.iconst 0, 1) := by decide +kernel
theorem d_Play_init_25 : decode y_Play_init.2.1 25 = .ok (.istore_n 1, 1) := by decide +kernel
theorem d_Play_init_26 : decode y_Play_init.2.1 26 = .ok (.iload_n 1, 1) := by decide +kernel
theorem d_Play_init_27 : decode y_Play_init.2.1 27 = .ok (.bipush 16, 2) := by decide +kernel
theorem d_Play_init_29 : decode y_Play_init.2.1 29 = .ok (.if_icmp .ge 22, 3) := by decide +kernel
theorem d_Play_init_32 : decode y_Play_init.2.1 32 = .ok (.aload_n 0, 1) := by decide +kernel
theorem d_Play_init_33 : decode y_Play_init.2.1 33 = .ok (.getfield 16, 3) := by decide +kernel
theorem d_Play_init_36 : decode y_Play_init.2.1 36 = .ok (.iload_n 1, 1) := by decide +kernel
theorem d_Play_init_37 : decode y_Play_init.2.1 37 = .ok (.new 7, 3) := by decide +kernel
theorem d_Play_init_40 : decode y_Play_init.2.1 40 = .ok (.dup, 1) := by decide +kernel
theorem d_Play_init_41 : decode y_Play_init.2.1 41 = .ok (.invokespecial 9, 3) := by decide +kernel
theorem d_Play_init_44 : decode y_Play_init.2.1 44 = .ok (.aastore, 1) := by decide +kernel
theorem d_Play_init_45 : decode y_Play_init.2.1 45 = .ok (.iinc 1 1, 3) := by decide +kernel
theorem d_Play_init_48 : decode y_Play_init.2.1 48 = .ok (.goto (-22), 3) := by decide +kernel
theorem d_Play_init_51 : decode y_Play_init.2.1 51 = .ok (.aload_n 0, 1) := by decide +kernel
theorem d_Play_init_52 : decode y_Play_init.2.1 52 = .ok (.iconst 1, 1) := by decide +kernel
theorem d_Play_init_53 : decode y_Play_init.2.1 53 = .ok (.putfield 20, 3) := by decide +kernel
theorem d_Play_init_56 : decode y_Play_init.2.1 56 = .ok (.aload_n 0, 1) := by decide +kernel
theorem d_Play_init_57 : decode y_Play_init.2.1 57 = .ok (.sipush 256, 3) := by decide +kernel
theorem d_Play_init_60 : decode y_Play_init.2.1 60 = .ok (.newarray .int, 2) := by decide +kernel
theorem d_Play_init_62 : decode y_Play_init.2.1 62 = .ok (.putfield 24, 3) := by decide +kernel
theorem d_Play_init_65 : decode y_Play_init.2.1 65 = .ok (.aload_n 0, 1) := by decide +kernel
theorem d_Play_init_66 : decode y_Play_init.2.1 66 = .ok (.new 28, 3) := by decide +kernel
theorem d_Play_init_69 : decode y_Play_init.2.1 69 = .ok (.dup, 1) := by decide +kernel
theorem d_Play_init_70 : decode y_Play_init.2.1 70 = .ok (.invokespecial 30, 3) := by decide +kernel
theorem d_Play_init_73 : decode y_Play_init.2.1 73 = .ok (.putfield 31, 3) := by decide +kernel
theorem d_Play_init_76 : decode y_Play_init.2.1 76 = .ok (.aload_n 0, 1) := by decide +kernel
theorem d_Play_init_77 : decode y_Play_init.2.1 77 = .ok (.sipush 256, 3) := by decide +kernel
theorem d_Play_init_80 : decode y_Play_init.2.1 80 = .ok (.newarray .boolean, 2) := by decide +kernel
theorem d_Play_init_82 : decode y_Play_init.2.1 82 = .ok (.putfield 35, 3) := by decide +kernel
theorem d_Play_init_85 : decode y_Play_init.2.1 85 = .ok (.aload_n 0, 1) := by decide +kernel
theorem d_Play_init_86 : decode y_Play_init.2.1 86 = .ok (.sipush 256, 3) := by decide +kernel
theorem d_Play_init_89 : decode y_Play_init.2.1 89 = .ok (.newarray .int, 2) := by decide +kernel
theorem d_Play_init_91 : decode y_Play_init.2.1 91 = .ok (.putfield 39, 3) := by decide +kernel
theorem d_Play_init_94 : decode y_Play_init.2.1 94 = .ok (.aload_n 0, 1) := by decide +kernel
theorem d_Play_init_95 : decode y_Play_init.2.1 95 = .ok (.iconst 4, 1) := by decide +kernel
theorem d_Play_init_96 : decode y_Play_init.2.1 96 = .ok (.newarray .int, 2) := by decide +kernel
theorem d_Play_init_98 : decode y_Play_init.2.1 98 = .ok (.putfield 42, 3) := by decide +kernel
theorem d_Play_init_101 : decode y_Play_init.2.1 101 = .ok (.aload_n 0, 1) := by decide +kernel
theorem d_Play_init_102 : decode y_Play_init.2.1 102 = .ok (.bipush 16, 2) := by decide +kernel
theorem d_Play_init_104 : decode y_Play_init.2.1 104 = .ok (.newarray .int, 2) := by decide +kernel
theorem d_Play_init_106 : decode y_Play_init.2.1 106 = .ok (.putfield 45, 3) := by decide +kernel
theorem d_Play_init_109 : decode y_Play_init.2.1 109 = .ok (.aload_n 0, 1) := by decide +kernel
theorem d_Play_init_110 : decode y_Play_init.2.1 110 = .ok (.bipush 64, 2) := by decide +kernel
theorem d_Play_init_112 : decode y_Play_init.2.1 112 = .ok (.newarray .int, 2) := by decide +kernel
theorem d_Play_init_114 : decode y_Play_init.2.1 114 = .ok (.putfield 48, 3) := by decide +kernel
theorem d_Play_init_117 : decode y_Play_init.2.1 117 = .ok (.aload_n 0, 1) := by decide +kernel
theorem d_Play_init_118 : decode y_Play_init.2.1 118 = .ok (.iconst 4, 1) := by decide +kernel
theorem d_Play_init_119 : decode y_Play_init.2.1 119 = .ok (.newarray .int, 2) := by decide +kernel
theorem d_Play_init_121 : decode y_Play_init.2.1 121 = .ok (.putfield 51, 3) := by decide +kernel
theorem d_Play_init_124 : decode y_Play_init.2.1 124 = .ok (.return_, 1) := by decide +kernel
theorem s_Play_init : ab_Stat y_Play_init 0 := ⟨(k1 193 rfl rfl), (k1 9 rfl rfl), ⟨by decide, by decide⟩, by decide +kernel⟩
theorem i_Play_init : Cond.instanceMethod y_Play_init.1 ∈ ab_T := (k1 192 rfl rfl)
def B_Play_init_26 (N : Nat) (p0 : Nat) : Nat → Int32 → Hp → Option (Unit × Hp)
  | 0, _, _ => none
  | n + 1, l1, H =>
    if (16 : Int32) ≤ l1 then
    ck (H.sh[p0]? = some (10, 0)) <|
    bnd (H.sD p0 2 (1 : Int32)) fun H15 =>
    ck (¬ (256 : Int32) < 0) <|
    ck (((256 : Int32)).toNatClampNeg * 4 ≤ 536870912) <|
    bnd (H15.nw (100, ((256 : Int32)).toNatClampNeg) ((256 : Int32)).toNatClampNeg) fun H18 =>
    bnd H15.sh.length fun a19 =>
    bnd (H18.sP p0 4 (.ref a19)) fun H20 =>
    bnd (H20.nw (9, 0) 3) fun H21 =>
    bnd H20.sh.length fun a22 =>
    bC (F_Ticker_init N a22 H21) fun v24 H25 =>
    bnd (H25.sP p0 7 (.ref a22)) fun H26 =>
    ck (¬ (256 : Int32) < 0) <|
    ck (((256 : Int32)).toNatClampNeg * 1 ≤ 536870912) <|
    bnd (H26.nw (102, ((256 : Int32)).toNatClampNeg) ((256 : Int32)).toNatClampNeg) fun H29 =>
    bnd H26.sh.length fun a30 =>
    bnd (H29.sP p0 8 (.ref a30)) fun H31 =>
    ck (¬ (256 : Int32) < 0) <|
    ck (((256 : Int32)).toNatClampNeg * 4 ≤ 536870912) <|
    bnd (H31.nw (100, ((256 : Int32)).toNatClampNeg) ((256 : Int32)).toNatClampNeg) fun H34 =>
    bnd H31.sh.length fun a35 =>
    bnd (H34.sP p0 9 (.ref a35)) fun H36 =>
    ck (¬ (4 : Int32) < 0) <|
    ck (((4 : Int32)).toNatClampNeg * 4 ≤ 536870912) <|
    bnd (H36.nw (100, ((4 : Int32)).toNatClampNeg) ((4 : Int32)).toNatClampNeg) fun H39 =>
    bnd H36.sh.length fun a40 =>
    bnd (H39.sP p0 10 (.ref a40)) fun H41 =>
    ck (¬ (16 : Int32) < 0) <|
    ck (((16 : Int32)).toNatClampNeg * 4 ≤ 536870912) <|
    bnd (H41.nw (100, ((16 : Int32)).toNatClampNeg) ((16 : Int32)).toNatClampNeg) fun H44 =>
    bnd H41.sh.length fun a45 =>
    bnd (H44.sP p0 11 (.ref a45)) fun H46 =>
    ck (¬ (64 : Int32) < 0) <|
    ck (((64 : Int32)).toNatClampNeg * 4 ≤ 536870912) <|
    bnd (H46.nw (100, ((64 : Int32)).toNatClampNeg) ((64 : Int32)).toNatClampNeg) fun H49 =>
    bnd H46.sh.length fun a50 =>
    bnd (H49.sP p0 12 (.ref a50)) fun H51 =>
    ck (¬ (4 : Int32) < 0) <|
    ck (((4 : Int32)).toNatClampNeg * 4 ≤ 536870912) <|
    bnd (H51.nw (100, ((4 : Int32)).toNatClampNeg) ((4 : Int32)).toNatClampNeg) fun H54 =>
    bnd H51.sh.length fun a55 =>
    bnd (H54.sP p0 13 (.ref a55)) fun H56 =>
    some ((), H56)
    else
    ck (H.sh[p0]? = some (10, 0)) <|
    rf (H.P p0 6) fun a58 =>
    bnd (H.nw (7, 0) 16) fun H60 =>
    bnd H.sh.length fun a61 =>
    bC (F_World_init N a61 H60) fun v63 H64 =>
    ar H64 105 a58 fun n65 =>
    ck (inb l1 n65) <|
    ck (H64.sh[a61]? = some (7, 0)) <|
    bnd (H64.sP a58 (l1).toNatClampNeg (.ref a61)) fun H69 =>
    B_Play_init_26 N p0 n (l1 + 1) H69
termination_by structural n => n
set_option maxRecDepth 20000 in
set_option maxHeartbeats 2000000 in
theorem mB_Play_init_26 {N : Nat} {p0 : Nat} : ∀ (n : Nat) (l1 : Int32) (H : Hp) (r : Unit × Hp), B_Play_init_26 N p0 n l1 H = some r → Mo H r.2 := by
  intro n
  induction n with
  | zero => intro l1 H r hF; rw [B_Play_init_26] at hF; cases hF
  | succ n ih =>
    intro l1 H r hF
    rw [B_Play_init_26] at hF
    have hm := Mo.rf H
    rcases ite_s hF with ⟨q_70, hG⟩ | ⟨q_70, hG⟩
    · clear hF
      obtain ⟨q71, hF⟩ := ck_s hG; clear hG
      obtain ⟨H72, eH72, hG⟩ := bnd_g hF; clear hF
      replace hm : Mo H H72 := by rw [eH72]; exact hm
      obtain ⟨q73, hF⟩ := ck_s hG; clear hG
      obtain ⟨q74, hG⟩ := ck_s hF; clear hF
      obtain ⟨H75, eH75, hF⟩ := bnd_g hG; clear hG
      replace hm : Mo H H75 := hm.tr (by rw [eH75]; exact Mo.nw _ _ _)
      obtain ⟨a76, -, hG⟩ := bnd_g hF; clear hF
      obtain ⟨H77, eH77, hF⟩ := bnd_g hG; clear hG
      replace hm : Mo H H77 := by rw [eH77]; exact hm
      obtain ⟨H78, eH78, hG⟩ := bnd_g hF; clear hF
      replace hm : Mo H H78 := hm.tr (by rw [eH78]; exact Mo.nw _ _ _)
      obtain ⟨a79, -, hF⟩ := bnd_g hG; clear hG
      obtain ⟨v81, H82, z80, hG⟩ := bC_s hF; clear hF
      replace hm : Mo H H82 := hm.tr (m_Ticker_init z80)
      obtain ⟨H83, eH83, hF⟩ := bnd_g hG; clear hG
      replace hm : Mo H H83 := by rw [eH83]; exact hm
      obtain ⟨q84, hG⟩ := ck_s hF; clear hF
      obtain ⟨q85, hF⟩ := ck_s hG; clear hG
      obtain ⟨H86, eH86, hG⟩ := bnd_g hF; clear hF
      replace hm : Mo H H86 := hm.tr (by rw [eH86]; exact Mo.nw _ _ _)
      obtain ⟨a87, -, hF⟩ := bnd_g hG; clear hG
      obtain ⟨H88, eH88, hG⟩ := bnd_g hF; clear hF
      replace hm : Mo H H88 := by rw [eH88]; exact hm
      obtain ⟨q89, hF⟩ := ck_s hG; clear hG
      obtain ⟨q90, hG⟩ := ck_s hF; clear hF
      obtain ⟨H91, eH91, hF⟩ := bnd_g hG; clear hG
      replace hm : Mo H H91 := hm.tr (by rw [eH91]; exact Mo.nw _ _ _)
      obtain ⟨a92, -, hG⟩ := bnd_g hF; clear hF
      obtain ⟨H93, eH93, hF⟩ := bnd_g hG; clear hG
      replace hm : Mo H H93 := by rw [eH93]; exact hm
      obtain ⟨q94, hG⟩ := ck_s hF; clear hF
      obtain ⟨q95, hF⟩ := ck_s hG; clear hG
      obtain ⟨H96, eH96, hG⟩ := bnd_g hF; clear hF
      replace hm : Mo H H96 := hm.tr (by rw [eH96]; exact Mo.nw _ _ _)
      obtain ⟨a97, -, hF⟩ := bnd_g hG; clear hG
      obtain ⟨H98, eH98, hG⟩ := bnd_g hF; clear hF
      replace hm : Mo H H98 := by rw [eH98]; exact hm
      obtain ⟨q99, hF⟩ := ck_s hG; clear hG
      obtain ⟨q100, hG⟩ := ck_s hF; clear hF
      obtain ⟨H101, eH101, hF⟩ := bnd_g hG; clear hG
      replace hm : Mo H H101 := hm.tr (by rw [eH101]; exact Mo.nw _ _ _)
      obtain ⟨a102, -, hG⟩ := bnd_g hF; clear hF
      obtain ⟨H103, eH103, hF⟩ := bnd_g hG; clear hG
      replace hm : Mo H H103 := by rw [eH103]; exact hm
      obtain ⟨q104, hG⟩ := ck_s hF; clear hF
      obtain ⟨q105, hF⟩ := ck_s hG; clear hG
      obtain ⟨H106, eH106, hG⟩ := bnd_g hF; clear hF
      replace hm : Mo H H106 := hm.tr (by rw [eH106]; exact Mo.nw _ _ _)
      obtain ⟨a107, -, hF⟩ := bnd_g hG; clear hG
      obtain ⟨H108, eH108, hG⟩ := bnd_g hF; clear hF
      replace hm : Mo H H108 := by rw [eH108]; exact hm
      obtain ⟨q109, hF⟩ := ck_s hG; clear hG
      obtain ⟨q110, hG⟩ := ck_s hF; clear hF
      obtain ⟨H111, eH111, hF⟩ := bnd_g hG; clear hG
      replace hm : Mo H H111 := hm.tr (by rw [eH111]; exact Mo.nw _ _ _)
      obtain ⟨a112, -, hG⟩ := bnd_g hF; clear hF
      obtain ⟨H113, eH113, hF⟩ := bnd_g hG; clear hG
      replace hm : Mo H H113 := by rw [eH113]; exact hm
      have hr := Option.some.inj hF; subst hr
      exact hm
    · clear hF
      obtain ⟨q114, hF⟩ := ck_s hG; clear hG
      obtain ⟨a115, e116, hG⟩ := rf_s hF; clear hF
      obtain ⟨H117, eH117, hF⟩ := bnd_g hG; clear hG
      replace hm : Mo H H117 := hm.tr (by rw [eH117]; exact Mo.nw _ _ _)
      obtain ⟨a118, -, hG⟩ := bnd_g hF; clear hF
      obtain ⟨v120, H121, z119, hF⟩ := bC_s hG; clear hG
      replace hm : Mo H H121 := hm.tr (m_World_init z119)
      obtain ⟨n122, q123, hG⟩ := ar_s hF; clear hF
      obtain ⟨q124, hF⟩ := ck_s hG; clear hG
      obtain ⟨q125, hG⟩ := ck_s hF; clear hF
      obtain ⟨H126, eH126, hF⟩ := bnd_g hG; clear hG
      replace hm : Mo H H126 := by rw [eH126]; exact hm
      exact hm.tr (ih (l1 + 1) H126 r hF)
set_option maxRecDepth 20000 in
set_option maxHeartbeats 2000000 in
theorem kB_Play_init_26 {N : Nat} {p0 : Nat} {c0 s0 C Sl : Nat} : ∀ (n : Nat) (l1 : Int32) (H : Hp) (r : Unit × Hp), B_Play_init_26 N p0 n l1 H = some r → c0 ≤ H.sh.length → s0 ≤ H.sl → H.sh.length ≤ c0 + C → H.sl ≤ s0 + Sl → r.2.sh.length ≤ c0 + C → r.2.sl ≤ s0 + Sl → ab_V y_Play_init { frames := 3, cells := C, slots := Sl, locals := 100 } (po (.returned none) r.2) C Sl (H.sh.length - c0) (H.sl - s0) 26 [some (.ref p0), some (.int l1)] [] (hpw H) := by
  intro n
  induction n with
  | zero => intro l1 H r hF; rw [B_Play_init_26] at hF; cases hF
  | succ n ih =>
    intro l1 H r hF hc0 hs0 hcc hss hC hS
    rw [B_Play_init_26] at hF
    refine ab_iload_n d_Play_init_26 rfl rfl ?_
    refine ab_bipush (v := 16) d_Play_init_27 (by decide) ?_
    refine ab_icmp_ge (tgt := 51) d_Play_init_29 (by decide) (fun q13 => ?_) (fun q13 => ?_)
    · rw [if_pos q13] at hF
      refine ab_aload_n d_Play_init_51 rfl rfl rfl ?_
      refine ab_iconst (v := 1) d_Play_init_52 (by decide) ?_
      obtain ⟨q14, hG⟩ := ck_s hF; clear hF
      refine hp_putI (v := 1) (f := 2) d_Play_init_53 q14 (by decide) rfl (by decide) (k2 134 rfl rfl) rfl rfl (fun _ => rfl) (fun _ => rfl) rfl ?_
      refine hp_gen (fun H15 eH15 => ?_)
      replace hG := bnd_s eH15 hG
      have s_7 : Sa H H15 := by rw [eH15]; exact Sa.rf _
      refine ab_aload_n d_Play_init_56 rfl rfl rfl ?_
      refine ab_sipush (v := 256) d_Play_init_57 (by decide) ?_
      obtain ⟨q16, hF⟩ := ck_s hG; clear hG
      obtain ⟨q17, hG⟩ := ck_s hF; clear hF
      obtain ⟨H18, eH18, hF⟩ := bnd_g hG; clear hG
      obtain ⟨a19, ea19, hG⟩ := bnd_g hF; clear hF
      have m_8 : Mo H15 H18 := by rw [eH18]; exact Mo.nw _ _ _
      have b_9l := (m_8).len
      have b_9s := (m_8).2
      have b_9e := congrArg List.length (s_7).1
      have b_9f := (s_7).2
      have b_9c : c0 ≤ H18.sh.length := by omega
      have b_9d : s0 ≤ H18.sl := by omega
      have b_9x : H18.sh.length = H15.sh.length + 1 := by rw [eH18]; simp [Hp.nw, mkH_sh]
      have b_9y : H18.sl = H15.sl + ((256 : Int32)).toNatClampNeg := by rw [eH18]; rfl
      have q_10 := (m_8).get (by rw [(s_7).1]; exact q14)
      obtain ⟨H20, eH20, hF⟩ := bnd_g hG; clear hG
      have jH20 : Mo H18 H20 := by rw [eH20]; exact Mo.rf _
      obtain ⟨H21, eH21, hG⟩ := bnd_g hF; clear hF
      obtain ⟨a22, ea22, hF⟩ := bnd_g hG; clear hG
      have jH21 : Mo H20 H21 := by rw [eH21]; exact Mo.nw _ _ _
      obtain ⟨v24, H25, z23, hG⟩ := bC_s hF; clear hF
      have jH25 : Mo H21 H25 := (m_Ticker_init z23)
      obtain ⟨H26, eH26, hF⟩ := bnd_g hG; clear hG
      have jH26 : Mo H25 H26 := by rw [eH26]; exact Mo.rf _
      obtain ⟨q27, hG⟩ := ck_s hF; clear hF
      obtain ⟨q28, hF⟩ := ck_s hG; clear hG
      obtain ⟨H29, eH29, hG⟩ := bnd_g hF; clear hF
      obtain ⟨a30, ea30, hF⟩ := bnd_g hG; clear hG
      have jH29 : Mo H26 H29 := by rw [eH29]; exact Mo.nw _ _ _
      obtain ⟨H31, eH31, hG⟩ := bnd_g hF; clear hF
      have jH31 : Mo H29 H31 := by rw [eH31]; exact Mo.rf _
      obtain ⟨q32, hF⟩ := ck_s hG; clear hG
      obtain ⟨q33, hG⟩ := ck_s hF; clear hF
      obtain ⟨H34, eH34, hF⟩ := bnd_g hG; clear hG
      obtain ⟨a35, ea35, hG⟩ := bnd_g hF; clear hF
      have jH34 : Mo H31 H34 := by rw [eH34]; exact Mo.nw _ _ _
      obtain ⟨H36, eH36, hF⟩ := bnd_g hG; clear hG
      have jH36 : Mo H34 H36 := by rw [eH36]; exact Mo.rf _
      obtain ⟨q37, hG⟩ := ck_s hF; clear hF
      obtain ⟨q38, hF⟩ := ck_s hG; clear hG
      obtain ⟨H39, eH39, hG⟩ := bnd_g hF; clear hF
      obtain ⟨a40, ea40, hF⟩ := bnd_g hG; clear hG
      have jH39 : Mo H36 H39 := by rw [eH39]; exact Mo.nw _ _ _
      obtain ⟨H41, eH41, hG⟩ := bnd_g hF; clear hF
      have jH41 : Mo H39 H41 := by rw [eH41]; exact Mo.rf _
      obtain ⟨q42, hF⟩ := ck_s hG; clear hG
      obtain ⟨q43, hG⟩ := ck_s hF; clear hF
      obtain ⟨H44, eH44, hF⟩ := bnd_g hG; clear hG
      obtain ⟨a45, ea45, hG⟩ := bnd_g hF; clear hF
      have jH44 : Mo H41 H44 := by rw [eH44]; exact Mo.nw _ _ _
      obtain ⟨H46, eH46, hF⟩ := bnd_g hG; clear hG
      have jH46 : Mo H44 H46 := by rw [eH46]; exact Mo.rf _
      obtain ⟨q47, hG⟩ := ck_s hF; clear hF
      obtain ⟨q48, hF⟩ := ck_s hG; clear hG
      obtain ⟨H49, eH49, hG⟩ := bnd_g hF; clear hF
      obtain ⟨a50, ea50, hF⟩ := bnd_g hG; clear hG
      have jH49 : Mo H46 H49 := by rw [eH49]; exact Mo.nw _ _ _
      obtain ⟨H51, eH51, hG⟩ := bnd_g hF; clear hF
      have jH51 : Mo H49 H51 := by rw [eH51]; exact Mo.rf _
      obtain ⟨q52, hF⟩ := ck_s hG; clear hG
      obtain ⟨q53, hG⟩ := ck_s hF; clear hF
      obtain ⟨H54, eH54, hF⟩ := bnd_g hG; clear hG
      obtain ⟨a55, ea55, hG⟩ := bnd_g hF; clear hF
      have jH54 : Mo H51 H54 := by rw [eH54]; exact Mo.nw _ _ _
      obtain ⟨H56, eH56, hF⟩ := bnd_g hG; clear hG
      have jH56 : Mo H54 H56 := by rw [eH56]; exact Mo.rf _
      have fH56 : Mo H56 r.2 := by
        have hm := Mo.rf H56
        have hr := Option.some.inj hF; subst hr
        exact hm
      have fH54 : Mo H54 r.2 := jH56.tr fH56
      have fH51 : Mo H51 r.2 := jH54.tr fH54
      have fH49 : Mo H49 r.2 := jH51.tr fH51
      have fH46 : Mo H46 r.2 := jH49.tr fH49
      have fH44 : Mo H44 r.2 := jH46.tr fH46
      have fH41 : Mo H41 r.2 := jH44.tr fH44
      have fH39 : Mo H39 r.2 := jH41.tr fH41
      have fH36 : Mo H36 r.2 := jH39.tr fH39
      have fH34 : Mo H34 r.2 := jH36.tr fH36
      have fH31 : Mo H31 r.2 := jH34.tr fH34
      have fH29 : Mo H29 r.2 := jH31.tr fH31
      have fH26 : Mo H26 r.2 := jH29.tr fH29
      have fH25 : Mo H25 r.2 := jH26.tr fH26
      have fH21 : Mo H21 r.2 := jH25.tr fH25
      have fH20 : Mo H20 r.2 := jH21.tr fH21
      have fH18 : Mo H18 r.2 := jH20.tr fH20
      have b_9m := (fH18).len
      have b_9n := (fH18).2
      have b_9p : H18.sh.length ≤ c0 + C := by omega
      have b_9q : H18.sl ≤ s0 + Sl := by omega
      refine ab_widen (cells' := H15.sh.length - c0) (slots' := H15.sl - s0) (by rw [(s_7).1]; exact Nat.le_refl _) (by rw [(s_7).2]; exact Nat.le_refl _) ?_
      refine hp_newa (q := 100) d_Play_init_60 rfl (k1 143 rfl rfl) tI (Or.inl rfl) ⟨by decide, by decide, rfl⟩ rfl q16 q17 (by show _ ≤ C; omega) (by show _ + ((256 : Int32)).toNatClampNeg ≤ Sl; omega) ?_
      refine ab_widen (cells' := H18.sh.length - c0) (slots' := H18.sl - s0) (by omega) (by show _ + ((256 : Int32)).toNatClampNeg ≤ _; omega) ?_
      rw [← eH18, ← ea19]
      clear b_9l b_9s b_9x b_9y b_9m b_9n b_9e b_9f
      refine hp_putFP (v := .ref a19) (f := 4) d_Play_init_62 q_10 (by decide) rfl (by decide) (k2 138 rfl rfl) rfl rfl rfl rfl (fun _ => rfl) (fun _ => rfl) rfl ?_
      refine hp_genx eH20 ?_
      have s_28 : Sa H18 H20 := by rw [eH20]; exact Sa.rf _
      refine ab_aload_n d_Play_init_65 rfl rfl rfl ?_
      have m_29 : Mo H20 H21 := by rw [eH21]; exact Mo.nw _ _ _
      have b_30l := (m_29).len
      have b_30s := (m_29).2
      have b_30e := congrArg List.length (s_28).1
      have b_30f := (s_28).2
      have b_30c : c0 ≤ H21.sh.length := by omega
      have b_30d : s0 ≤ H21.sl := by omega
      have b_30x : H21.sh.length = H20.sh.length + 1 := by rw [eH21]; simp [Hp.nw, mkH_sh]
      have b_30y : H21.sl = H20.sl + 3 := by rw [eH21]; rfl
      have q_31 := (m_29).get (by rw [(s_28).1]; exact q_10)
      have b_30m := (fH21).len
      have b_30n := (fH21).2
      have b_30p : H21.sh.length ≤ c0 + C := by omega
      have b_30q : H21.sl ≤ s0 + Sl := by omega
      refine ab_widen (cells' := H20.sh.length - c0) (slots' := H20.sl - s0) (by rw [(s_28).1]; exact Nat.le_refl _) (by rw [(s_28).2]; exact Nat.le_refl _) ?_
      refine hp_new (ci := 9) d_Play_init_66 rfl (k2 48 rfl rfl) (k2 49 rfl rfl) (k1 12 rfl rfl) rfl (by decide) (by decide) rfl (by show _ ≤ C; omega) (by show _ + 3 ≤ Sl; omega) ?_
      refine ab_widen (cells' := H21.sh.length - c0) (slots' := H21.sl - s0) (by omega) (by show _ + 3 ≤ _; omega) ?_
      rw [← eH21, ← ea22]
      clear b_30l b_30s b_30x b_30y b_30m b_30n b_30e b_30f b_9c b_9d b_9p b_9q
      refine ab_dup d_Play_init_69 rfl ?_
      have mz_32 : Mo H21 H25 := (m_Ticker_init z23)
      have b_33l := (mz_32).len
      have b_33s := (mz_32).2
      have b_33c : c0 ≤ H25.sh.length := by omega
      have b_33d : s0 ≤ H25.sl := by omega
      have q_34 := (mz_32).get q_31
      have b_33m := (fH25).len
      have b_33n := (fH25).2
      have b_33p : H25.sh.length ≤ c0 + C := by omega
      have b_33q : H25.sl ≤ s0 + Sl := by omega
      refine hp_callI_v (H1 := H25) (As := []) (rest := [.ref a22, .ref p0]) d_Play_init_70 (k_Ticker_init z23 (C := H25.sh.length - H21.sh.length) (Sl := H25.sl - H21.sl) (by show H25.sh.length ≤ _; omega) (by show H25.sl ≤ _; omega)) (ab_mkC s_Ticker_init (Nat.le_of_ble_eq_true rfl) (Nat.le_of_ble_eq_true rfl) (show (H21.sh.length - c0) + (H25.sh.length - H21.sh.length) ≤ C from by omega) (show (H21.sl - s0) + (H25.sl - H21.sl) ≤ Sl from by omega)) (k2 50 rfl rfl) i_Ticker_init rfl (k2 52 rfl rfl) rfl (Nat.le_of_ble_eq_true rfl) ?_
      refine ab_widen (cells' := H25.sh.length - c0) (slots' := H25.sl - s0) (by show _ + (H25.sh.length - H21.sh.length) ≤ _; omega) (by show _ + (H25.sl - H21.sl) ≤ _; omega) ?_
      clear b_33l b_33s b_33m b_33n b_30c b_30d b_30p b_30q
      refine hp_putFP (v := .ref a22) (f := 7) d_Play_init_73 q_34 (by decide) rfl (by decide) (k2 143 rfl rfl) rfl rfl rfl rfl (fun _ => rfl) (fun _ => rfl) rfl ?_
      refine hp_genx eH26 ?_
      have s_35 : Sa H25 H26 := by rw [eH26]; exact Sa.rf _
      refine ab_aload_n d_Play_init_76 rfl rfl rfl ?_
      refine ab_sipush (v := 256) d_Play_init_77 (by decide) ?_
      have m_36 : Mo H26 H29 := by rw [eH29]; exact Mo.nw _ _ _
      have b_37l := (m_36).len
      have b_37s := (m_36).2
      have b_37e := congrArg List.length (s_35).1
      have b_37f := (s_35).2
      have b_37c : c0 ≤ H29.sh.length := by omega
      have b_37d : s0 ≤ H29.sl := by omega
      have b_37x : H29.sh.length = H26.sh.length + 1 := by rw [eH29]; simp [Hp.nw, mkH_sh]
      have b_37y : H29.sl = H26.sl + ((256 : Int32)).toNatClampNeg := by rw [eH29]; rfl
      have q_38 := (m_36).get (by rw [(s_35).1]; exact q_34)
      have b_37m := (fH29).len
      have b_37n := (fH29).2
      have b_37p : H29.sh.length ≤ c0 + C := by omega
      have b_37q : H29.sl ≤ s0 + Sl := by omega
      refine ab_widen (cells' := H26.sh.length - c0) (slots' := H26.sl - s0) (by rw [(s_35).1]; exact Nat.le_refl _) (by rw [(s_35).2]; exact Nat.le_refl _) ?_
      refine hp_newa (q := 102) d_Play_init_80 rfl (k1 144 rfl rfl) tZ (Or.inr (Or.inr (Or.inl rfl))) ⟨by decide, by decide, rfl⟩ rfl q27 q28 (by show _ ≤ C; omega) (by show _ + ((256 : Int32)).toNatClampNeg ≤ Sl; omega) ?_
      refine ab_widen (cells' := H29.sh.length - c0) (slots' := H29.sl - s0) (by omega) (by show _ + ((256 : Int32)).toNatClampNeg ≤ _; omega) ?_
      rw [← eH29, ← ea30]
      clear b_37l b_37s b_37x b_37y b_37m b_37n b_37e b_37f b_33c b_33d b_33p b_33q
      refine hp_putFP (v := .ref a30) (f := 8) d_Play_init_82 q_38 (by decide) rfl (by decide) (k2 144 rfl rfl) rfl rfl rfl rfl (fun _ => rfl) (fun _ => rfl) rfl ?_
      refine hp_genx eH31 ?_
      have s_39 : Sa H29 H31 := by rw [eH31]; exact Sa.rf _
      refine ab_aload_n d_Play_init_85 rfl rfl rfl ?_
      refine ab_sipush (v := 256) d_Play_init_86 (by decide) ?_
      have m_40 : Mo H31 H34 := by rw [eH34]; exact Mo.nw _ _ _
      have b_41l := (m_40).len
      have b_41s := (m_40).2
      have b_41e := congrArg List.length (s_39).1
      have b_41f := (s_39).2
      have b_41c : c0 ≤ H34.sh.length := by omega
      have b_41d : s0 ≤ H34.sl := by omega
      have b_41x : H34.sh.length = H31.sh.length + 1 := by rw [eH34]; simp [Hp.nw, mkH_sh]
      have b_41y : H34.sl = H31.sl + ((256 : Int32)).toNatClampNeg := by rw [eH34]; rfl
      have q_42 := (m_40).get (by rw [(s_39).1]; exact q_38)
      have b_41m := (fH34).len
      have b_41n := (fH34).2
      have b_41p : H34.sh.length ≤ c0 + C := by omega
      have b_41q : H34.sl ≤ s0 + Sl := by omega
      refine ab_widen (cells' := H31.sh.length - c0) (slots' := H31.sl - s0) (by rw [(s_39).1]; exact Nat.le_refl _) (by rw [(s_39).2]; exact Nat.le_refl _) ?_
      refine hp_newa (q := 100) d_Play_init_89 rfl (k1 143 rfl rfl) tI (Or.inl rfl) ⟨by decide, by decide, rfl⟩ rfl q32 q33 (by show _ ≤ C; omega) (by show _ + ((256 : Int32)).toNatClampNeg ≤ Sl; omega) ?_
      refine ab_widen (cells' := H34.sh.length - c0) (slots' := H34.sl - s0) (by omega) (by show _ + ((256 : Int32)).toNatClampNeg ≤ _; omega) ?_
      rw [← eH34, ← ea35]
      clear b_41l b_41s b_41x b_41y b_41m b_41n b_41e b_41f b_37c b_37d b_37p b_37q
      refine hp_putFP (v := .ref a35) (f := 9) d_Play_init_91 q_42 (by decide) rfl (by decide) (k2 145 rfl rfl) rfl rfl rfl rfl (fun _ => rfl) (fun _ => rfl) rfl ?_
      refine hp_genx eH36 ?_
      have s_43 : Sa H34 H36 := by rw [eH36]; exact Sa.rf _
      refine ab_aload_n d_Play_init_94 rfl rfl rfl ?_
      refine ab_iconst (v := 4) d_Play_init_95 (by decide) ?_
      have m_44 : Mo H36 H39 := by rw [eH39]; exact Mo.nw _ _ _
      have b_45l := (m_44).len
      have b_45s := (m_44).2
      have b_45e := congrArg List.length (s_43).1
      have b_45f := (s_43).2
      have b_45c : c0 ≤ H39.sh.length := by omega
      have b_45d : s0 ≤ H39.sl := by omega
      have b_45x : H39.sh.length = H36.sh.length + 1 := by rw [eH39]; simp [Hp.nw, mkH_sh]
      have b_45y : H39.sl = H36.sl + ((4 : Int32)).toNatClampNeg := by rw [eH39]; rfl
      have q_46 := (m_44).get (by rw [(s_43).1]; exact q_42)
      have b_45m := (fH39).len
      have b_45n := (fH39).2
      have b_45p : H39.sh.length ≤ c0 + C := by omega
      have b_45q : H39.sl ≤ s0 + Sl := by omega
      refine ab_widen (cells' := H36.sh.length - c0) (slots' := H36.sl - s0) (by rw [(s_43).1]; exact Nat.le_refl _) (by rw [(s_43).2]; exact Nat.le_refl _) ?_
      refine hp_newa (q := 100) d_Play_init_96 rfl (k1 143 rfl rfl) tI (Or.inl rfl) ⟨by decide, by decide, rfl⟩ rfl q37 q38 (by show _ ≤ C; omega) (by show _ + ((4 : Int32)).toNatClampNeg ≤ Sl; omega) ?_
      refine ab_widen (cells' := H39.sh.length - c0) (slots' := H39.sl - s0) (by omega) (by show _ + ((4 : Int32)).toNatClampNeg ≤ _; omega) ?_
      rw [← eH39, ← ea40]
      clear b_45l b_45s b_45x b_45y b_45m b_45n b_45e b_45f b_41c b_41d b_41p b_41q
      refine hp_putFP (v := .ref a40) (f := 10) d_Play_init_98 q_46 (by decide) rfl (by decide) (k2 146 rfl rfl) rfl rfl rfl rfl (fun _ => rfl) (fun _ => rfl) rfl ?_
      refine hp_genx eH41 ?_
      have s_47 : Sa H39 H41 := by rw [eH41]; exact Sa.rf _
      refine ab_aload_n d_Play_init_101 rfl rfl rfl ?_
      refine ab_bipush (v := 16) d_Play_init_102 (by decide) ?_
      have m_48 : Mo H41 H44 := by rw [eH44]; exact Mo.nw _ _ _
      have b_49l := (m_48).len
      have b_49s := (m_48).2
      have b_49e := congrArg List.length (s_47).1
      have b_49f := (s_47).2
      have b_49c : c0 ≤ H44.sh.length := by omega
      have b_49d : s0 ≤ H44.sl := by omega
      have b_49x : H44.sh.length = H41.sh.length + 1 := by rw [eH44]; simp [Hp.nw, mkH_sh]
      have b_49y : H44.sl = H41.sl + ((16 : Int32)).toNatClampNeg := by rw [eH44]; rfl
      have q_50 := (m_48).get (by rw [(s_47).1]; exact q_46)
      have b_49m := (fH44).len
      have b_49n := (fH44).2
      have b_49p : H44.sh.length ≤ c0 + C := by omega
      have b_49q : H44.sl ≤ s0 + Sl := by omega
      refine ab_widen (cells' := H41.sh.length - c0) (slots' := H41.sl - s0) (by rw [(s_47).1]; exact Nat.le_refl _) (by rw [(s_47).2]; exact Nat.le_refl _) ?_
      refine hp_newa (q := 100) d_Play_init_104 rfl (k1 143 rfl rfl) tI (Or.inl rfl) ⟨by decide, by decide, rfl⟩ rfl q42 q43 (by show _ ≤ C; omega) (by show _ + ((16 : Int32)).toNatClampNeg ≤ Sl; omega) ?_
      refine ab_widen (cells' := H44.sh.length - c0) (slots' := H44.sl - s0) (by omega) (by show _ + ((16 : Int32)).toNatClampNeg ≤ _; omega) ?_
      rw [← eH44, ← ea45]
      clear b_49l b_49s b_49x b_49y b_49m b_49n b_49e b_49f b_45c b_45d b_45p b_45q
      refine hp_putFP (v := .ref a45) (f := 11) d_Play_init_106 q_50 (by decide) rfl (by decide) (k2 147 rfl rfl) rfl rfl rfl rfl (fun _ => rfl) (fun _ => rfl) rfl ?_
      refine hp_genx eH46 ?_
      have s_51 : Sa H44 H46 := by rw [eH46]; exact Sa.rf _
      refine ab_aload_n d_Play_init_109 rfl rfl rfl ?_
      refine ab_bipush (v := 64) d_Play_init_110 (by decide) ?_
      have m_52 : Mo H46 H49 := by rw [eH49]; exact Mo.nw _ _ _
      have b_53l := (m_52).len
      have b_53s := (m_52).2
      have b_53e := congrArg List.length (s_51).1
      have b_53f := (s_51).2
      have b_53c : c0 ≤ H49.sh.length := by omega
      have b_53d : s0 ≤ H49.sl := by omega
      have b_53x : H49.sh.length = H46.sh.length + 1 := by rw [eH49]; simp [Hp.nw, mkH_sh]
      have b_53y : H49.sl = H46.sl + ((64 : Int32)).toNatClampNeg := by rw [eH49]; rfl
      have q_54 := (m_52).get (by rw [(s_51).1]; exact q_50)
      have b_53m := (fH49).len
      have b_53n := (fH49).2
      have b_53p : H49.sh.length ≤ c0 + C := by omega
      have b_53q : H49.sl ≤ s0 + Sl := by omega
      refine ab_widen (cells' := H46.sh.length - c0) (slots' := H46.sl - s0) (by rw [(s_51).1]; exact Nat.le_refl _) (by rw [(s_51).2]; exact Nat.le_refl _) ?_
      refine hp_newa (q := 100) d_Play_init_112 rfl (k1 143 rfl rfl) tI (Or.inl rfl) ⟨by decide, by decide, rfl⟩ rfl q47 q48 (by show _ ≤ C; omega) (by show _ + ((64 : Int32)).toNatClampNeg ≤ Sl; omega) ?_
      refine ab_widen (cells' := H49.sh.length - c0) (slots' := H49.sl - s0) (by omega) (by show _ + ((64 : Int32)).toNatClampNeg ≤ _; omega) ?_
      rw [← eH49, ← ea50]
      clear b_53l b_53s b_53x b_53y b_53m b_53n b_53e b_53f b_49c b_49d b_49p b_49q
      refine hp_putFP (v := .ref a50) (f := 12) d_Play_init_114 q_54 (by decide) rfl (by decide) (k2 148 rfl rfl) rfl rfl rfl rfl (fun _ => rfl) (fun _ => rfl) rfl ?_
      refine hp_genx eH51 ?_
      have s_55 : Sa H49 H51 := by rw [eH51]; exact Sa.rf _
      refine ab_aload_n d_Play_init_117 rfl rfl rfl ?_
      refine ab_iconst (v := 4) d_Play_init_118 (by decide) ?_
      have m_56 : Mo H51 H54 := by rw [eH54]; exact Mo.nw _ _ _
      have b_57l := (m_56).len
      have b_57s := (m_56).2
      have b_57e := congrArg List.length (s_55).1
      have b_57f := (s_55).2
      have b_57c : c0 ≤ H54.sh.length := by omega
      have b_57d : s0 ≤ H54.sl := by omega
      have b_57x : H54.sh.length = H51.sh.length + 1 := by rw [eH54]; simp [Hp.nw, mkH_sh]
      have b_57y : H54.sl = H51.sl + ((4 : Int32)).toNatClampNeg := by rw [eH54]; rfl
      have q_58 := (m_56).get (by rw [(s_55).1]; exact q_54)
      have b_57m := (fH54).len
      have b_57n := (fH54).2
      have b_57p : H54.sh.length ≤ c0 + C := by omega
      have b_57q : H54.sl ≤ s0 + Sl := by omega
      refine ab_widen (cells' := H51.sh.length - c0) (slots' := H51.sl - s0) (by rw [(s_55).1]; exact Nat.le_refl _) (by rw [(s_55).2]; exact Nat.le_refl _) ?_
      refine hp_newa (q := 100) d_Play_init_119 rfl (k1 143 rfl rfl) tI (Or.inl rfl) ⟨by decide, by decide, rfl⟩ rfl q52 q53 (by show _ ≤ C; omega) (by show _ + ((4 : Int32)).toNatClampNeg ≤ Sl; omega) ?_
      refine ab_widen (cells' := H54.sh.length - c0) (slots' := H54.sl - s0) (by omega) (by show _ + ((4 : Int32)).toNatClampNeg ≤ _; omega) ?_
      rw [← eH54, ← ea55]
      clear b_57l b_57s b_57x b_57y b_57m b_57n b_57e b_57f b_53c b_53d b_53p b_53q
      refine hp_putFP (v := .ref a55) (f := 13) d_Play_init_121 q_58 (by decide) rfl (by decide) (k2 149 rfl rfl) rfl rfl rfl rfl (fun _ => rfl) (fun _ => rfl) rfl ?_
      refine hp_genx eH56 ?_
      have s_59 : Sa H54 H56 := by rw [eH56]; exact Sa.rf _
      exact ab_vret d_Play_init_124 rfl (by show _ ≤ C; omega) (by show _ ≤ Sl; omega) (by have hr := Option.some.inj hF; subst hr; exact ⟨rfl, rfl⟩)
    · rw [if_neg q13] at hF
      refine ab_aload_n d_Play_init_32 rfl rfl rfl ?_
      obtain ⟨q57, hG⟩ := ck_s hF; clear hF
      obtain ⟨a58, e59, hF⟩ := rf_s hG; clear hG
      refine hp_getR (f := 6) d_Play_init_33 q57 (by decide) rfl (by decide) (k2 142 rfl rfl) rfl e59 ?_
      refine ab_iload_n d_Play_init_36 rfl rfl ?_
      obtain ⟨H60, eH60, hG⟩ := bnd_g hF; clear hF
      obtain ⟨a61, ea61, hF⟩ := bnd_g hG; clear hG
      have m_60 : Mo H H60 := by rw [eH60]; exact Mo.nw _ _ _
      have b_61l := (m_60).len
      have b_61s := (m_60).2
      have b_61c : c0 ≤ H60.sh.length := by omega
      have b_61d : s0 ≤ H60.sl := by omega
      have b_61x : H60.sh.length = H.sh.length + 1 := by rw [eH60]; simp [Hp.nw, mkH_sh]
      have b_61y : H60.sl = H.sl + 16 := by rw [eH60]; rfl
      have q_62 := (m_60).get q57
      obtain ⟨v63, H64, z62, hG⟩ := bC_s hF; clear hF
      have jH64 : Mo H60 H64 := (m_World_init z62)
      obtain ⟨n65, q66, hF⟩ := ar_s hG; clear hG
      obtain ⟨q67, hG⟩ := ck_s hF; clear hF
      obtain ⟨q68, hF⟩ := ck_s hG; clear hG
      obtain ⟨H69, eH69, hG⟩ := bnd_g hF; clear hF
      have jH69 : Mo H64 H69 := by rw [eH69]; exact Mo.rf _
      have fH69 : Mo H69 r.2 := by
        have hm := Mo.rf H69
        exact hm.tr (mB_Play_init_26 n (l1 + 1) H69 r hG)
      have fH64 : Mo H64 r.2 := jH69.tr fH69
      have fH60 : Mo H60 r.2 := jH64.tr fH64
      have b_61m := (fH60).len
      have b_61n := (fH60).2
      have b_61p : H60.sh.length ≤ c0 + C := by omega
      have b_61q : H60.sl ≤ s0 + Sl := by omega
      refine hp_new (ci := 7) d_Play_init_37 rfl (k1 195 rfl rfl) (k1 196 rfl rfl) (k1 10 rfl rfl) rfl (by decide) (by decide) rfl (by show _ ≤ C; omega) (by show _ + 16 ≤ Sl; omega) ?_
      refine ab_widen (cells' := H60.sh.length - c0) (slots' := H60.sl - s0) (by omega) (by show _ + 16 ≤ _; omega) ?_
      rw [← eH60, ← ea61]
      clear b_61l b_61s b_61x b_61y b_61m b_61n
      refine ab_dup d_Play_init_40 rfl ?_
      have mz_66 : Mo H60 H64 := (m_World_init z62)
      have b_67l := (mz_66).len
      have b_67s := (mz_66).2
      have b_67c : c0 ≤ H64.sh.length := by omega
      have b_67d : s0 ≤ H64.sl := by omega
      have q_68 := (mz_66).get q_62
      have b_67m := (fH64).len
      have b_67n := (fH64).2
      have b_67p : H64.sh.length ≤ c0 + C := by omega
      have b_67q : H64.sl ≤ s0 + Sl := by omega
      refine hp_callI_v (H1 := H64) (As := []) (rest := [.ref a61, .int l1, .ref a58]) d_Play_init_41 (k_World_init z62 (C := H64.sh.length - H60.sh.length) (Sl := H64.sl - H60.sl) (by show H64.sh.length ≤ _; omega) (by show H64.sl ≤ _; omega)) (ab_mkC s_World_init (Nat.le_of_ble_eq_true rfl) (Nat.le_of_ble_eq_true rfl) (show (H60.sh.length - c0) + (H64.sh.length - H60.sh.length) ≤ C from by omega) (show (H60.sl - s0) + (H64.sl - H60.sl) ≤ Sl from by omega)) (k1 197 rfl rfl) i_World_init rfl (k1 199 rfl rfl) rfl (Nat.le_of_ble_eq_true rfl) ?_
      refine ab_widen (cells' := H64.sh.length - c0) (slots' := H64.sl - s0) (by show _ + (H64.sh.length - H60.sh.length) ≤ _; omega) (by show _ + (H64.sl - H60.sl) ≤ _; omega) ?_
      clear b_67l b_67s b_67m b_67n b_61c b_61d b_61p b_61q
      refine hp_aast (q := 105) d_Play_init_44 (by decide) rfl tW q66 q68 (by decide) rfl q67 ?_
      refine hp_genx eH69 ?_
      have s_69 : Sa H64 H69 := by rw [eH69]; exact Sa.rf _
      refine ab_iinc (v := l1 + 1) (lv' := [some (.ref p0), some (.int (l1 + 1))]) d_Play_init_45 rfl rfl (by decide) rfl ?_
      refine ab_goto (tgt := 26) d_Play_init_48 (by decide) ?_
      refine ab_widen (cells' := H69.sh.length - c0) (slots' := H69.sl - s0) (by rw [(s_69).1]; exact Nat.le_refl _) (by rw [(s_69).2]; exact Nat.le_refl _) ?_
      exact ih (l1 + 1) H69 r hG (by rw [(s_69).1]; exact b_67c) (by rw [(s_69).2]; exact b_67d) (by rw [(s_69).1]; exact b_67p) (by rw [(s_69).2]; exact b_67q) hC hS
def F_Play_init (N : Nat) (p0 : Nat) (H : Hp) : Option (Unit × Hp) :=
    bnd (H.nw (7, 0) 16) fun H1 =>
    bnd H.sh.length fun a2 =>
    bC (F_World_init N a2 H1) fun v4 H5 =>
    ck (H5.sh[p0]? = some (10, 0)) <|
    bnd (H5.sP p0 0 (.ref a2)) fun H7 =>
    ck (¬ (16 : Int32) < 0) <|
    ck (((16 : Int32)).toNatClampNeg * 4 ≤ 536870912) <|
    bnd (H7.nw (105, ((16 : Int32)).toNatClampNeg) ((16 : Int32)).toNatClampNeg) fun H10 =>
    bnd H7.sh.length fun a11 =>
    bnd (H10.sP p0 6 (.ref a11)) fun H12 =>
    B_Play_init_26 N p0 N 0 H12
set_option maxRecDepth 20000 in
set_option maxHeartbeats 2000000 in
theorem m_Play_init {N : Nat} {p0 : Nat} {H : Hp} {r : Unit × Hp} (hF : F_Play_init N p0 H = some r) : Mo H r.2 := by
  unfold F_Play_init at hF
  have hm := Mo.rf H
  obtain ⟨H13, eH13, hG⟩ := bnd_g hF; clear hF
  replace hm : Mo H H13 := hm.tr (by rw [eH13]; exact Mo.nw _ _ _)
  obtain ⟨a14, -, hF⟩ := bnd_g hG; clear hG
  obtain ⟨v16, H17, z15, hG⟩ := bC_s hF; clear hF
  replace hm : Mo H H17 := hm.tr (m_World_init z15)
  obtain ⟨q18, hF⟩ := ck_s hG; clear hG
  obtain ⟨H19, eH19, hG⟩ := bnd_g hF; clear hF
  replace hm : Mo H H19 := by rw [eH19]; exact hm
  obtain ⟨q20, hF⟩ := ck_s hG; clear hG
  obtain ⟨q21, hG⟩ := ck_s hF; clear hF
  obtain ⟨H22, eH22, hF⟩ := bnd_g hG; clear hG
  replace hm : Mo H H22 := hm.tr (by rw [eH22]; exact Mo.nw _ _ _)
  obtain ⟨a23, -, hG⟩ := bnd_g hF; clear hF
  obtain ⟨H24, eH24, hF⟩ := bnd_g hG; clear hG
  replace hm : Mo H H24 := by rw [eH24]; exact hm
  exact hm.tr (mB_Play_init_26 N 0 H24 r hF)
set_option maxRecDepth 20000 in
set_option maxHeartbeats 2000000 in
theorem k_Play_init {N : Nat} {p0 : Nat} {H : Hp} {r : Unit × Hp} {C Sl : Nat} (hF : F_Play_init N p0 H = some r) (hC : r.2.sh.length ≤ H.sh.length + C) (hS : r.2.sl ≤ H.sl + Sl) : ab_M y_Play_init { frames := 3, cells := C, slots := Sl, locals := 100 } [.ref p0] (hpw H) (po (.returned none) r.2) := by
  unfold F_Play_init at hF
  obtain ⟨c0, e0⟩ : ∃ q, q = H.sh.length := ⟨_, rfl⟩
  obtain ⟨s0, e1⟩ : ∃ q, q = H.sl := ⟨_, rfl⟩
  rw [← e0] at hC
  rw [← e1] at hS
  have hc0 : c0 ≤ H.sh.length := Nat.le_of_eq e0
  have hs0 : s0 ≤ H.sl := Nat.le_of_eq e1
  have hcc : H.sh.length ≤ c0 + C := by omega
  have hss : H.sl ≤ s0 + Sl := by omega
  refine ab_of2 (lv := [some (.ref p0), none]) 1 rfl rfl (Nat.le_of_ble_eq_true rfl) ?_
  refine ab_widen (cells' := H.sh.length - c0) (slots' := H.sl - s0) (Nat.zero_le _) (Nat.zero_le _) ?_
  refine ab_aload_n d_Play_init_0 rfl rfl rfl ?_
  refine ab_objInit d_Play_init_1 (k1 194 rfl rfl) (k1 37 rfl rfl) (k1 38 rfl rfl) (Nat.le_of_ble_eq_true rfl) (Nat.le_of_ble_eq_true rfl) ?_
  refine ab_aload_n d_Play_init_4 rfl rfl rfl ?_
  obtain ⟨H1, eH1, hG⟩ := bnd_g hF; clear hF
  obtain ⟨a2, ea2, hF⟩ := bnd_g hG; clear hG
  have m_1 : Mo H H1 := by rw [eH1]; exact Mo.nw _ _ _
  have b_2l := (m_1).len
  have b_2s := (m_1).2
  have b_2c : c0 ≤ H1.sh.length := by omega
  have b_2d : s0 ≤ H1.sl := by omega
  have b_2x : H1.sh.length = H.sh.length + 1 := by rw [eH1]; simp [Hp.nw, mkH_sh]
  have b_2y : H1.sl = H.sl + 16 := by rw [eH1]; rfl
  obtain ⟨v4, H5, z3, hG⟩ := bC_s hF; clear hF
  have jH5 : Mo H1 H5 := (m_World_init z3)
  obtain ⟨q6, hF⟩ := ck_s hG; clear hG
  obtain ⟨H7, eH7, hG⟩ := bnd_g hF; clear hF
  have jH7 : Mo H5 H7 := by rw [eH7]; exact Mo.rf _
  obtain ⟨q8, hF⟩ := ck_s hG; clear hG
  obtain ⟨q9, hG⟩ := ck_s hF; clear hF
  obtain ⟨H10, eH10, hF⟩ := bnd_g hG; clear hG
  obtain ⟨a11, ea11, hG⟩ := bnd_g hF; clear hF
  have jH10 : Mo H7 H10 := by rw [eH10]; exact Mo.nw _ _ _
  obtain ⟨H12, eH12, hF⟩ := bnd_g hG; clear hG
  have jH12 : Mo H10 H12 := by rw [eH12]; exact Mo.rf _
  have fH12 : Mo H12 r.2 := by
    have hm := Mo.rf H12
    exact hm.tr (mB_Play_init_26 N 0 H12 r hF)
  have fH10 : Mo H10 r.2 := jH12.tr fH12
  have fH7 : Mo H7 r.2 := jH10.tr fH10
  have fH5 : Mo H5 r.2 := jH7.tr fH7
  have fH1 : Mo H1 r.2 := jH5.tr fH5
  have b_2m := (fH1).len
  have b_2n := (fH1).2
  have b_2p : H1.sh.length ≤ c0 + C := by omega
  have b_2q : H1.sl ≤ s0 + Sl := by omega
  refine hp_new (ci := 7) d_Play_init_5 rfl (k1 195 rfl rfl) (k1 196 rfl rfl) (k1 10 rfl rfl) rfl (by decide) (by decide) rfl (by show _ ≤ C; omega) (by show _ + 16 ≤ Sl; omega) ?_
  refine ab_widen (cells' := H1.sh.length - c0) (slots' := H1.sl - s0) (by omega) (by show _ + 16 ≤ _; omega) ?_
  rw [← eH1, ← ea2]
  clear b_2l b_2s b_2x b_2y b_2m b_2n
  refine ab_dup d_Play_init_8 rfl ?_
  have mz_94 : Mo H1 H5 := (m_World_init z3)
  have b_95l := (mz_94).len
  have b_95s := (mz_94).2
  have b_95c : c0 ≤ H5.sh.length := by omega
  have b_95d : s0 ≤ H5.sl := by omega
  have b_95m := (fH5).len
  have b_95n := (fH5).2
  have b_95p : H5.sh.length ≤ c0 + C := by omega
  have b_95q : H5.sl ≤ s0 + Sl := by omega
  refine hp_callI_v (H1 := H5) (As := []) (rest := [.ref a2, .ref p0]) d_Play_init_9 (k_World_init z3 (C := H5.sh.length - H1.sh.length) (Sl := H5.sl - H1.sl) (by show H5.sh.length ≤ _; omega) (by show H5.sl ≤ _; omega)) (ab_mkC s_World_init (Nat.le_of_ble_eq_true rfl) (Nat.le_of_ble_eq_true rfl) (show (H1.sh.length - c0) + (H5.sh.length - H1.sh.length) ≤ C from by omega) (show (H1.sl - s0) + (H5.sl - H1.sl) ≤ Sl from by omega)) (k1 197 rfl rfl) i_World_init rfl (k1 199 rfl rfl) rfl (Nat.le_of_ble_eq_true rfl) ?_
  refine ab_widen (cells' := H5.sh.length - c0) (slots' := H5.sl - s0) (by show _ + (H5.sh.length - H1.sh.length) ≤ _; omega) (by show _ + (H5.sl - H1.sl) ≤ _; omega) ?_
  clear b_95l b_95s b_95m b_95n b_2c b_2d b_2p b_2q
  refine hp_putFP (v := .ref a2) (f := 0) d_Play_init_12 q6 (by decide) rfl (by decide) (k2 130 rfl rfl) rfl rfl rfl rfl (fun _ => rfl) (fun _ => rfl) rfl ?_
  refine hp_genx eH7 ?_
  have s_96 : Sa H5 H7 := by rw [eH7]; exact Sa.rf _
  refine ab_aload_n d_Play_init_15 rfl rfl rfl ?_
  refine ab_bipush (v := 16) d_Play_init_16 (by decide) ?_
  have m_97 : Mo H7 H10 := by rw [eH10]; exact Mo.nw _ _ _
  have b_98l := (m_97).len
  have b_98s := (m_97).2
  have b_98e := congrArg List.length (s_96).1
  have b_98f := (s_96).2
  have b_98c : c0 ≤ H10.sh.length := by omega
  have b_98d : s0 ≤ H10.sl := by omega
  have b_98x : H10.sh.length = H7.sh.length + 1 := by rw [eH10]; simp [Hp.nw, mkH_sh]
  have b_98y : H10.sl = H7.sl + ((16 : Int32)).toNatClampNeg := by rw [eH10]; rfl
  have q_99 := (m_97).get (by rw [(s_96).1]; exact q6)
  have b_98m := (fH10).len
  have b_98n := (fH10).2
  have b_98p : H10.sh.length ≤ c0 + C := by omega
  have b_98q : H10.sl ≤ s0 + Sl := by omega
  refine ab_widen (cells' := H7.sh.length - c0) (slots' := H7.sl - s0) (by rw [(s_96).1]; exact Nat.le_refl _) (by rw [(s_96).2]; exact Nat.le_refl _) ?_
  refine hp_anew (q := 105) d_Play_init_18 (k1 195 rfl rfl) (k2 47 rfl rfl) tW ⟨by decide, rfl⟩ q8 q9 (by show _ ≤ C; omega) (by show _ + ((16 : Int32)).toNatClampNeg ≤ Sl; omega) ?_
  refine ab_widen (cells' := H10.sh.length - c0) (slots' := H10.sl - s0) (by omega) (by show _ + ((16 : Int32)).toNatClampNeg ≤ _; omega) ?_
  rw [← eH10, ← ea11]
  clear b_98l b_98s b_98x b_98y b_98m b_98n b_98e b_98f b_95c b_95d b_95p b_95q
  refine hp_putFP (v := .ref a11) (f := 6) d_Play_init_21 q_99 (by decide) rfl (by decide) (k2 142 rfl rfl) rfl rfl rfl rfl (fun _ => rfl) (fun _ => rfl) rfl ?_
  refine hp_genx eH12 ?_
  have s_100 : Sa H10 H12 := by rw [eH12]; exact Sa.rf _
  refine ab_iconst (v := 0) d_Play_init_24 (by decide) ?_
  refine ab_istore_n (lv' := [some (.ref p0), some (.int 0)]) d_Play_init_25 rfl (by decide) rfl ?_
  refine ab_widen (cells' := H12.sh.length - c0) (slots' := H12.sl - s0) (by rw [(s_100).1]; exact Nat.le_refl _) (by rw [(s_100).2]; exact Nat.le_refl _) ?_
  exact kB_Play_init_26 N 0 H12 r hF (by rw [(s_100).1]; exact b_98c) (by rw [(s_100).2]; exact b_98d) (by rw [(s_100).1]; exact b_98p) (by rw [(s_100).2]; exact b_98q) hC hS
def y_Store_init : ab_Y := (⟨"WorldEngine$Store", "<init>", "()V"⟩, prog_10_method_1_code, 1, none, [])
theorem d_Store_init_0 : decode y_Store_init.2.1 0 = .ok (.aload_n 0, 1) := by decide +kernel
theorem d_Store_init_1 : decode y_Store_init.2.1 1 = .ok (.invokespecial 3, 3) := by decide +kernel
theorem d_Store_init_4 : decode y_Store_init.2.1 4 = .ok (.aload_n 0, 1) := by decide +kernel
theorem d_Store_init_5 : decode y_Store_init.2.1 5 = .ok (.ldc 11, 2) := by decide +kernel
theorem d_Store_init_7 : decode y_Store_init.2.1 7 = .ok (.newarray .byte, 2) := by decide +kernel
theorem d_Store_init_9 : decode y_Store_init.2.1 9 = .ok (.putfield 12, 3) := by decide +kernel
theorem d_Store_init_12 : decode y_Store_init.2.1 12 = .ok (.return_, 1) := by decide +kernel
theorem s_Store_init : ab_Stat y_Store_init 0 := ⟨(k2 183 rfl rfl), (k1 14 rfl rfl), ⟨by decide, by decide⟩, by decide +kernel⟩
theorem i_Store_init : Cond.instanceMethod y_Store_init.1 ∈ ab_T := (k2 182 rfl rfl)
def F_Store_init (N : Nat) (p0 : Nat) (H : Hp) : Option (Unit × Hp) :=
    ck (¬ (60000 : Int32) < 0) <|
    ck (((60000 : Int32)).toNatClampNeg * 1 ≤ 536870912) <|
    bnd (H.nw (101, ((60000 : Int32)).toNatClampNeg) ((60000 : Int32)).toNatClampNeg) fun H3 =>
    bnd H.sh.length fun a4 =>
    ck (H3.sh[p0]? = some (11, 0)) <|
    bnd (H3.sP p0 0 (.ref a4)) fun H6 =>
    some ((), H6)
set_option maxRecDepth 20000 in
set_option maxHeartbeats 2000000 in
theorem m_Store_init {N : Nat} {p0 : Nat} {H : Hp} {r : Unit × Hp} (hF : F_Store_init N p0 H = some r) : Mo H r.2 := by
  unfold F_Store_init at hF
  have hm := Mo.rf H
  obtain ⟨q7, hG⟩ := ck_s hF; clear hF
  obtain ⟨q8, hF⟩ := ck_s hG; clear hG
  obtain ⟨H9, eH9, hG⟩ := bnd_g hF; clear hF
  replace hm : Mo H H9 := hm.tr (by rw [eH9]; exact Mo.nw _ _ _)
  obtain ⟨a10, -, hF⟩ := bnd_g hG; clear hG
  obtain ⟨q11, hG⟩ := ck_s hF; clear hF
  obtain ⟨H12, eH12, hF⟩ := bnd_g hG; clear hG
  replace hm : Mo H H12 := by rw [eH12]; exact hm
  have hr := Option.some.inj hF; subst hr
  exact hm
set_option maxRecDepth 20000 in
set_option maxHeartbeats 2000000 in
theorem k_Store_init {N : Nat} {p0 : Nat} {H : Hp} {r : Unit × Hp} {C Sl : Nat} (hF : F_Store_init N p0 H = some r) (hC : r.2.sh.length ≤ H.sh.length + C) (hS : r.2.sl ≤ H.sl + Sl) : ab_M y_Store_init { frames := 1, cells := C, slots := Sl, locals := 60 } [.ref p0] (hpw H) (po (.returned none) r.2) := by
  unfold F_Store_init at hF
  obtain ⟨c0, e0⟩ : ∃ q, q = H.sh.length := ⟨_, rfl⟩
  obtain ⟨s0, e1⟩ : ∃ q, q = H.sl := ⟨_, rfl⟩
  rw [← e0] at hC
  rw [← e1] at hS
  have hc0 : c0 ≤ H.sh.length := Nat.le_of_eq e0
  have hs0 : s0 ≤ H.sl := Nat.le_of_eq e1
  have hcc : H.sh.length ≤ c0 + C := by omega
  have hss : H.sl ≤ s0 + Sl := by omega
  refine ab_of2 (lv := [some (.ref p0)]) 0 rfl rfl (Nat.le_of_ble_eq_true rfl) ?_
  refine ab_widen (cells' := H.sh.length - c0) (slots' := H.sl - s0) (Nat.zero_le _) (Nat.zero_le _) ?_
  refine ab_aload_n d_Store_init_0 rfl rfl rfl ?_
  refine ab_objInit d_Store_init_1 (k2 184 rfl rfl) (k1 37 rfl rfl) (k1 38 rfl rfl) (Nat.le_of_ble_eq_true rfl) (Nat.le_of_ble_eq_true rfl) ?_
  refine ab_aload_n d_Store_init_4 rfl rfl rfl ?_
  refine ab_ldc d_Store_init_5 (k2 185 rfl rfl) ?_
  obtain ⟨q1, hG⟩ := ck_s hF; clear hF
  obtain ⟨q2, hF⟩ := ck_s hG; clear hG
  obtain ⟨H3, eH3, hG⟩ := bnd_g hF; clear hF
  obtain ⟨a4, ea4, hF⟩ := bnd_g hG; clear hG
  have m_1 : Mo H H3 := by rw [eH3]; exact Mo.nw _ _ _
  have b_2l := (m_1).len
  have b_2s := (m_1).2
  have b_2c : c0 ≤ H3.sh.length := by omega
  have b_2d : s0 ≤ H3.sl := by omega
  have b_2x : H3.sh.length = H.sh.length + 1 := by rw [eH3]; simp [Hp.nw, mkH_sh]
  have b_2y : H3.sl = H.sl + ((60000 : Int32)).toNatClampNeg := by rw [eH3]; rfl
  obtain ⟨q5, hG⟩ := ck_s hF; clear hF
  obtain ⟨H6, eH6, hF⟩ := bnd_g hG; clear hG
  have jH6 : Mo H3 H6 := by rw [eH6]; exact Mo.rf _
  have fH6 : Mo H6 r.2 := by
    have hm := Mo.rf H6
    have hr := Option.some.inj hF; subst hr
    exact hm
  have fH3 : Mo H3 r.2 := jH6.tr fH6
  have b_2m := (fH3).len
  have b_2n := (fH3).2
  have b_2p : H3.sh.length ≤ c0 + C := by omega
  have b_2q : H3.sl ≤ s0 + Sl := by omega
  refine hp_newa (q := 101) d_Store_init_7 rfl (k1 142 rfl rfl) tB (Or.inr (Or.inl rfl)) ⟨by decide, by decide, rfl⟩ rfl q1 q2 (by show _ ≤ C; omega) (by show _ + ((60000 : Int32)).toNatClampNeg ≤ Sl; omega) ?_
  refine ab_widen (cells' := H3.sh.length - c0) (slots' := H3.sl - s0) (by omega) (by show _ + ((60000 : Int32)).toNatClampNeg ≤ _; omega) ?_
  rw [← eH3, ← ea4]
  clear b_2l b_2s b_2x b_2y b_2m b_2n
  refine hp_putFP (v := .ref a4) (f := 0) d_Store_init_9 q5 (by decide) rfl (by decide) (k2 186 rfl rfl) rfl rfl rfl rfl (fun _ => rfl) (fun _ => rfl) rfl ?_
  refine hp_genx eH6 ?_
  have s_4 : Sa H3 H6 := by rw [eH6]; exact Sa.rf _
  exact ab_vret d_Store_init_12 rfl (by show _ ≤ C; omega) (by show _ ≤ Sl; omega) (by have hr := Option.some.inj hF; subst hr; exact ⟨rfl, rfl⟩)
def y_Math_max : ab_Y := (⟨"java/lang/Math", "max", "(II)I"⟩, prog_23_method_65_code, 2, (some FieldType.int), [])
theorem d_Math_max_0 : decode y_Math_max.2.1 0 = .ok (.iload_n 0, 1) := by decide +kernel
theorem d_Math_max_1 : decode y_Math_max.2.1 1 = .ok (.iload_n 1, 1) := by decide +kernel
theorem d_Math_max_2 : decode y_Math_max.2.1 2 = .ok (.if_icmp .lt 7, 3) := by decide +kernel
theorem d_Math_max_5 : decode y_Math_max.2.1 5 = .ok (.iload_n 0, 1) := by decide +kernel
theorem d_Math_max_6 : decode y_Math_max.2.1 6 = .ok (.goto 4, 3) := by decide +kernel
theorem d_Math_max_9 : decode y_Math_max.2.1 9 = .ok (.iload_n 1, 1) := by decide +kernel
theorem d_Math_max_10 : decode y_Math_max.2.1 10 = .ok (.ireturn, 1) := by decide +kernel
theorem s_Math_max : ab_Stat y_Math_max 2 := ⟨(k2 219 rfl rfl), (k1 17 rfl rfl), ⟨by decide, by decide⟩, by decide +kernel⟩
theorem t_Math_max : Cond.static y_Math_max.1 ∈ ab_T := (k2 218 rfl rfl)
def F_Math_max (N : Nat) (p0 : Int32) (p1 : Int32) (H : Hp) : Option (Int32 × Hp) :=
    if p0 < p1 then
    some (p1, H)
    else
    some (p0, H)
set_option maxRecDepth 20000 in
set_option maxHeartbeats 2000000 in
theorem m_Math_max {N : Nat} {p0 : Int32} {p1 : Int32} {H : Hp} {r : Int32 × Hp} (hF : F_Math_max N p0 p1 H = some r) : Sa H r.2 := by
  unfold F_Math_max at hF
  have hm := Sa.rf H
  rcases ite_s hF with ⟨q_1, hG⟩ | ⟨q_1, hG⟩
  · clear hF
    have hr := Option.some.inj hG; subst hr
    exact hm
  · clear hF
    have hr := Option.some.inj hG; subst hr
    exact hm
set_option maxRecDepth 20000 in
set_option maxHeartbeats 2000000 in
theorem k_Math_max {N : Nat} {p0 : Int32} {p1 : Int32} {H : Hp} {r : Int32 × Hp} (hF : F_Math_max N p0 p1 H = some r) : ab_M y_Math_max { frames := 0, cells := 0, slots := 0, locals := 0 } [.int p0, .int p1] (hpw H) (po (.returned (some (.int r.1))) r.2) := by
  unfold F_Math_max at hF
  refine ab_of2 (lv := [some (.int p0), some (.int p1)]) 0 rfl (by decide +kernel) (Nat.le_of_ble_eq_true rfl) ?_
  refine ab_iload_n d_Math_max_0 rfl rfl ?_
  refine ab_iload_n d_Math_max_1 rfl rfl ?_
  refine ab_icmp_lt (tgt := 9) d_Math_max_2 (by decide) (fun q1 => ?_) (fun q1 => ?_)
  · rw [if_pos q1] at hF
    refine ab_iload_n d_Math_max_9 rfl rfl ?_
    exact ab_iret d_Math_max_10 rfl (Nat.le_refl _) (Nat.le_refl _) (by have hr := Option.some.inj hF; subst hr; exact ⟨rfl, rfl⟩)
  · rw [if_neg q1] at hF
    refine ab_iload_n d_Math_max_5 rfl rfl ?_
    refine ab_goto (tgt := 10) d_Math_max_6 (by decide) ?_
    exact ab_iret d_Math_max_10 rfl (Nat.le_refl _) (Nat.le_refl _) (by have hr := Option.some.inj hF; subst hr; exact ⟨rfl, rfl⟩)
def y_Named_init : ab_Y := (⟨"WorldEngine$Named", "<init>", "()V"⟩, prog_4_method_1_code, 1, none, [])
theorem d_Named_init_0 : decode y_Named_init.2.1 0 = .ok (.aload_n 0, 1) := by decide +kernel
theorem d_Named_init_1 : decode y_Named_init.2.1 1 = .ok (.invokespecial 1, 3) := by decide +kernel
theorem d_Named_init_4 : decode y_Named_init.2.1 4 = .ok (.aload_n 0, 1) := by decide +kernel
theorem d_Named_init_5 : decode y_Named_init.2.1 5 = .ok (.ldc 7, 2) := by decide +kernel
theorem d_Named_init_7 : decode y_Named_init.2.1 7 = .ok (.putfield 9, 3) := by decide +kernel
theorem d_Named_init_10 : decode y_Named_init.2.1 10 = .ok (.return_, 1) := by decide +kernel
theorem s_Named_init : ab_Stat y_Named_init 0 := ⟨(k2 225 rfl rfl), (k1 16 rfl rfl), ⟨by decide, by decide⟩, by decide +kernel⟩
theorem i_Named_init : Cond.instanceMethod y_Named_init.1 ∈ ab_T := (k2 224 rfl rfl)
def F_Named_init (N : Nat) (p0 : Nat) (H : Hp) : Option (Unit × Hp) :=
    ck (H.sh[p0]? = some (2, 0)) <|
    bnd (H.sP p0 0 (.float 1)) fun H2 =>
    some ((), H2)
set_option maxRecDepth 20000 in
set_option maxHeartbeats 2000000 in
theorem m_Named_init {N : Nat} {p0 : Nat} {H : Hp} {r : Unit × Hp} (hF : F_Named_init N p0 H = some r) : Sa H r.2 := by
  unfold F_Named_init at hF
  have hm := Sa.rf H
  obtain ⟨q3, hG⟩ := ck_s hF; clear hF
  obtain ⟨H4, eH4, hF⟩ := bnd_g hG; clear hG
  replace hm : Sa H H4 := by rw [eH4]; exact hm
  have hr := Option.some.inj hF; subst hr
  exact hm
set_option maxRecDepth 20000 in
set_option maxHeartbeats 2000000 in
theorem k_Named_init {N : Nat} {p0 : Nat} {H : Hp} {r : Unit × Hp} (hF : F_Named_init N p0 H = some r) : ab_M y_Named_init { frames := 1, cells := 0, slots := 0, locals := 60 } [.ref p0] (hpw H) (po (.returned none) r.2) := by
  unfold F_Named_init at hF
  refine ab_of2 (lv := [some (.ref p0)]) 0 rfl rfl (Nat.le_of_ble_eq_true rfl) ?_
  refine ab_aload_n d_Named_init_0 rfl rfl rfl ?_
  refine ab_objInit d_Named_init_1 (k2 226 rfl rfl) (k1 37 rfl rfl) (k1 38 rfl rfl) (Nat.le_of_ble_eq_true rfl) (Nat.le_of_ble_eq_true rfl) ?_
  refine ab_aload_n d_Named_init_4 rfl rfl rfl ?_
  refine ab_ldcS (k0 := 1) d_Named_init_5 (List.mem_of_getElem? (i := 1) rfl) rfl rfl rfl ?_
  obtain ⟨q1, hG⟩ := ck_s hF; clear hF
  refine hp_putP (v := .float 1) (f := 0) d_Named_init_7 q1 (by decide) rfl (by decide) (k2 228 rfl rfl) rfl rfl (fun _ => rfl) (fun _ => rfl) rfl ?_
  refine hp_gen (fun H2 eH2 => ?_)
  replace hG := bnd_s eH2 hG
  have s_1 : Sa H H2 := by rw [eH2]; exact Sa.rf _
  exact ab_vret d_Named_init_10 rfl (Nat.le_refl _) (Nat.le_refl _) (by have hr := Option.some.inj hG; subst hr; exact ⟨rfl, rfl⟩)
def y_Named_rowOf : ab_Y := (⟨"WorldEngine$Named", "rowOf", "(I)[LWorldEngine$Named;"⟩, prog_4_method_4_code, 3, (some (FieldType.array (FieldType.object "WorldEngine$Named"))), [])
theorem d_Named_rowOf_0 : decode y_Named_rowOf.2.1 0 = .ok (.iconst 0, 1) := by decide +kernel
theorem d_Named_rowOf_1 : decode y_Named_rowOf.2.1 1 = .ok (.iload_n 0, 1) := by decide +kernel
theorem d_Named_rowOf_2 : decode y_Named_rowOf.2.1 2 = .ok (.invokestatic 25, 3) := by decide +kernel
theorem d_Named_rowOf_5 : decode y_Named_rowOf.2.1 5 = .ok (.anewarray 10, 3) := by decide +kernel
theorem d_Named_rowOf_8 : decode y_Named_rowOf.2.1 8 = .ok (.astore_n 1, 1) := by decide +kernel
theorem d_Named_rowOf_9 : decode y_Named_rowOf.2.1 9 = .ok (.iconst 0, 1) := by decide +kernel
theorem d_Named_rowOf_10 : decode y_Named_rowOf.2.1 10 = .ok (.istore_n 2, 1) := by decide +kernel
theorem d_Named_rowOf_11 : decode y_Named_rowOf.2.1 11 = .ok (.iload_n 2, 1) := by decide +kernel
theorem d_Named_rowOf_12 : decode y_Named_rowOf.2.1 12 = .ok (.aload_n 1, 1) := by decide +kernel
theorem d_Named_rowOf_13 : decode y_Named_rowOf.2.1 13 = .ok (.arraylength, 1) := by decide +kernel
theorem d_Named_rowOf_14 : decode y_Named_rowOf.2.1 14 = .ok (.if_icmp .ge 19, 3) := by decide +kernel
theorem d_Named_rowOf_17 : decode y_Named_rowOf.2.1 17 = .ok (.aload_n 1, 1) := by decide +kernel
theorem d_Named_rowOf_18 : decode y_Named_rowOf.2.1 18 = .ok (.iload_n 2, 1) := by decide +kernel
theorem d_Named_rowOf_19 : decode y_Named_rowOf.2.1 19 = .ok (.new 10, 3) := by decide +kernel
theorem d_Named_rowOf_22 : decode y_Named_rowOf.2.1 22 = .ok (.dup, 1) := by decide +kernel
theorem d_Named_rowOf_23 : decode y_Named_rowOf.2.1 23 = .ok (.invokespecial 31, 3) := by decide +kernel
theorem d_Named_rowOf_26 : decode y_Named_rowOf.2.1 26 = .ok (.aastore, 1) := by decide +kernel
theorem d_Named_rowOf_27 : decode y_Named_rowOf.2.1 27 = .ok (.iinc 2 1, 3) := by decide +kernel
theorem d_Named_rowOf_30 : decode y_Named_rowOf.2.1 30 = .ok (.goto (-19), 3) := by decide +kernel
theorem d_Named_rowOf_33 : decode y_Named_rowOf.2.1 33 = .ok (.aload_n 1, 1) := by decide +kernel
theorem d_Named_rowOf_34 : decode y_Named_rowOf.2.1 34 = .ok (.areturn, 1) := by decide +kernel
theorem s_Named_rowOf : ab_Stat y_Named_rowOf 1 := ⟨(k2 216 rfl rfl), (k1 16 rfl rfl), ⟨by decide, by decide⟩, by decide +kernel⟩
theorem t_Named_rowOf : Cond.static y_Named_rowOf.1 ∈ ab_T := (k2 215 rfl rfl)
def B_Named_rowOf_11 (N : Nat) (p0 : Int32) : Nat → Nat → Int32 → Hp → Option ((Option Nat) × Hp)
  | 0, _, _, _ => none
  | n + 1, l1, l2, H =>
    ar H 106 l1 fun n8 =>
    if (Int32.ofNat n8) ≤ l2 then
    some (some l1, H)
    else
    bnd (H.nw (2, 0) 4) fun H11 =>
    bnd H.sh.length fun a12 =>
    bC (F_Named_init N a12 H11) fun v14 H15 =>
    ck (inb l2 n8) <|
    ck (H15.sh[a12]? = some (2, 0)) <|
    bnd (H15.sP l1 (l2).toNatClampNeg (.ref a12)) fun H18 =>
    B_Named_rowOf_11 N p0 n l1 (l2 + 1) H18
termination_by structural n => n
set_option maxRecDepth 20000 in
set_option maxHeartbeats 2000000 in
theorem mB_Named_rowOf_11 {N : Nat} {p0 : Int32} : ∀ (n : Nat) (l1 : Nat) (l2 : Int32) (H : Hp) (r : (Option Nat) × Hp), B_Named_rowOf_11 N p0 n l1 l2 H = some r → Mo H r.2 := by
  intro n
  induction n with
  | zero => intro l1 l2 H r hF; rw [B_Named_rowOf_11] at hF; cases hF
  | succ n ih =>
    intro l1 l2 H r hF
    rw [B_Named_rowOf_11] at hF
    have hm := Mo.rf H
    obtain ⟨n19, q20, hG⟩ := ar_s hF; clear hF
    rcases ite_s hG with ⟨q_13, hF⟩ | ⟨q_13, hF⟩
    · clear hG
      have hr := Option.some.inj hF; subst hr
      exact hm
    · clear hG
      obtain ⟨H22, eH22, hG⟩ := bnd_g hF; clear hF
      replace hm : Mo H H22 := hm.tr (by rw [eH22]; exact Mo.nw _ _ _)
      obtain ⟨a23, -, hF⟩ := bnd_g hG; clear hG
      obtain ⟨v25, H26, z24, hG⟩ := bC_s hF; clear hF
      replace hm : Mo H H26 := hm.tr ((m_Named_init z24)).mo
      obtain ⟨q27, hF⟩ := ck_s hG; clear hG
      obtain ⟨q28, hG⟩ := ck_s hF; clear hF
      obtain ⟨H29, eH29, hF⟩ := bnd_g hG; clear hG
      replace hm : Mo H H29 := by rw [eH29]; exact hm
      exact hm.tr (ih l1 (l2 + 1) H29 r hF)
set_option maxRecDepth 20000 in
set_option maxHeartbeats 2000000 in
theorem kB_Named_rowOf_11 {N : Nat} {p0 : Int32} {c0 s0 C Sl : Nat} : ∀ (n : Nat) (l1 : Nat) (l2 : Int32) (H : Hp) (r : (Option Nat) × Hp), B_Named_rowOf_11 N p0 n l1 l2 H = some r → c0 ≤ H.sh.length → s0 ≤ H.sl → H.sh.length ≤ c0 + C → H.sl ≤ s0 + Sl → r.2.sh.length ≤ c0 + C → r.2.sl ≤ s0 + Sl → ab_V y_Named_rowOf { frames := 2, cells := C, slots := Sl, locals := 80 } (po (.returned (some (ab_rf r.1))) r.2) C Sl (H.sh.length - c0) (H.sl - s0) 11 [some (.int p0), some (.ref l1), some (.int l2)] [] (hpw H) := by
  intro n
  induction n with
  | zero => intro l1 l2 H r hF; rw [B_Named_rowOf_11] at hF; cases hF
  | succ n ih =>
    intro l1 l2 H r hF hc0 hs0 hcc hss hC hS
    rw [B_Named_rowOf_11] at hF
    refine ab_iload_n d_Named_rowOf_11 rfl rfl ?_
    refine ab_aload_n d_Named_rowOf_12 rfl rfl rfl ?_
    obtain ⟨n8, q9, hG⟩ := ar_s hF; clear hF
    refine hp_alen (q := 106) d_Named_rowOf_13 q9 (Or.inr ⟨by decide, rfl⟩) tN ?_
    refine ab_icmp_ge (tgt := 33) d_Named_rowOf_14 (by decide) (fun q10 => ?_) (fun q10 => ?_)
    · rw [if_pos q10] at hG
      refine ab_aload_n d_Named_rowOf_33 rfl rfl rfl ?_
      exact ab_aret d_Named_rowOf_34 rfl (Or.inr ⟨_, rfl⟩) rfl (by show _ ≤ C; omega) (by show _ ≤ Sl; omega) (by have hr := Option.some.inj hG; subst hr; exact ⟨rfl, rfl⟩)
    · rw [if_neg q10] at hG
      refine ab_aload_n d_Named_rowOf_17 rfl rfl rfl ?_
      refine ab_iload_n d_Named_rowOf_18 rfl rfl ?_
      obtain ⟨H11, eH11, hF⟩ := bnd_g hG; clear hG
      obtain ⟨a12, ea12, hG⟩ := bnd_g hF; clear hF
      have m_5 : Mo H H11 := by rw [eH11]; exact Mo.nw _ _ _
      have b_6l := (m_5).len
      have b_6s := (m_5).2
      have b_6c : c0 ≤ H11.sh.length := by omega
      have b_6d : s0 ≤ H11.sl := by omega
      have b_6x : H11.sh.length = H.sh.length + 1 := by rw [eH11]; simp [Hp.nw, mkH_sh]
      have b_6y : H11.sl = H.sl + 4 := by rw [eH11]; rfl
      have q_7 := (m_5).get q9
      obtain ⟨v14, H15, z13, hF⟩ := bC_s hG; clear hG
      have jH15 : Mo H11 H15 := ((m_Named_init z13)).mo
      obtain ⟨q16, hG⟩ := ck_s hF; clear hF
      obtain ⟨q17, hF⟩ := ck_s hG; clear hG
      obtain ⟨H18, eH18, hG⟩ := bnd_g hF; clear hF
      have jH18 : Mo H15 H18 := by rw [eH18]; exact Mo.rf _
      have fH18 : Mo H18 r.2 := by
        have hm := Mo.rf H18
        exact hm.tr (mB_Named_rowOf_11 n l1 (l2 + 1) H18 r hG)
      have fH15 : Mo H15 r.2 := jH18.tr fH18
      have fH11 : Mo H11 r.2 := jH15.tr fH15
      have b_6m := (fH11).len
      have b_6n := (fH11).2
      have b_6p : H11.sh.length ≤ c0 + C := by omega
      have b_6q : H11.sl ≤ s0 + Sl := by omega
      refine hp_new (ci := 2) d_Named_rowOf_19 rfl (k2 220 rfl rfl) (k2 222 rfl rfl) (k1 16 rfl rfl) rfl (by decide) (by decide) rfl (by show _ ≤ C; omega) (by show _ + 4 ≤ Sl; omega) ?_
      refine ab_widen (cells' := H11.sh.length - c0) (slots' := H11.sl - s0) (by omega) (by show _ + 4 ≤ _; omega) ?_
      rw [← eH11, ← ea12]
      clear b_6l b_6s b_6x b_6y b_6m b_6n
      refine ab_dup d_Named_rowOf_22 rfl ?_
      refine hp_callI_v (H1 := H15) (As := []) (rest := [.ref a12, .int l2, .ref l1]) d_Named_rowOf_23 (k_Named_init z13) (ab_mkC s_Named_init (Nat.le_of_ble_eq_true rfl) (Nat.le_of_ble_eq_true rfl) (show (H11.sh.length - c0) + 0 ≤ C from by omega) (show (H11.sl - s0) + 0 ≤ Sl from by omega)) (k2 223 rfl rfl) i_Named_init rfl (k2 225 rfl rfl) rfl (Nat.le_of_ble_eq_true rfl) ?_
      have s_11 : Sa H11 H15 := (m_Named_init z13)
      refine ab_widen (cells' := H11.sh.length - c0) (slots' := H11.sl - s0) (by show (H11.sh.length - c0) + 0 ≤ _; omega) (by show (H11.sl - s0) + 0 ≤ _; omega) ?_
      rw [(s_11).1] at q17
      refine hp_aast (q := 106) d_Named_rowOf_26 (by decide) rfl tN (by rw [(s_11).1]; exact q_7) (by rw [(s_11).1]; exact q17) (by decide) rfl q16 ?_
      refine hp_genx eH18 ?_
      have s_12 : Sa H11 H18 := by rw [eH18]; exact s_11
      refine ab_iinc (v := l2 + 1) (lv' := [some (.int p0), some (.ref l1), some (.int (l2 + 1))]) d_Named_rowOf_27 rfl rfl (by decide) rfl ?_
      refine ab_goto (tgt := 11) d_Named_rowOf_30 (by decide) ?_
      refine ab_widen (cells' := H18.sh.length - c0) (slots' := H18.sl - s0) (by rw [(s_12).1]; exact Nat.le_refl _) (by rw [(s_12).2]; exact Nat.le_refl _) ?_
      exact ih l1 (l2 + 1) H18 r hG (by rw [(s_12).1]; exact b_6c) (by rw [(s_12).2]; exact b_6d) (by rw [(s_12).1]; exact b_6p) (by rw [(s_12).2]; exact b_6q) hC hS
def F_Named_rowOf (N : Nat) (p0 : Int32) (H : Hp) : Option ((Option Nat) × Hp) :=
    bC (F_Math_max N (0 : Int32) p0 H) fun v2 H3 =>
    ck (¬ v2 < 0) <|
    ck ((v2).toNatClampNeg * 4 ≤ 536870912) <|
    bnd (H3.nw (106, (v2).toNatClampNeg) (v2).toNatClampNeg) fun H6 =>
    bnd H3.sh.length fun a7 =>
    B_Named_rowOf_11 N p0 N a7 0 H6
set_option maxRecDepth 20000 in
set_option maxHeartbeats 2000000 in
theorem m_Named_rowOf {N : Nat} {p0 : Int32} {H : Hp} {r : (Option Nat) × Hp} (hF : F_Named_rowOf N p0 H = some r) : Mo H r.2 := by
  unfold F_Named_rowOf at hF
  have hm := Mo.rf H
  obtain ⟨v9, H10, z8, hG⟩ := bC_s hF; clear hF
  replace hm : Mo H H10 := hm.tr ((m_Math_max z8)).mo
  obtain ⟨q11, hF⟩ := ck_s hG; clear hG
  obtain ⟨q12, hG⟩ := ck_s hF; clear hF
  obtain ⟨H13, eH13, hF⟩ := bnd_g hG; clear hG
  replace hm : Mo H H13 := hm.tr (by rw [eH13]; exact Mo.nw _ _ _)
  obtain ⟨a14, -, hG⟩ := bnd_g hF; clear hF
  exact hm.tr (mB_Named_rowOf_11 N a14 0 H13 r hG)
set_option maxRecDepth 20000 in
set_option maxHeartbeats 2000000 in
theorem k_Named_rowOf {N : Nat} {p0 : Int32} {H : Hp} {r : (Option Nat) × Hp} {C Sl : Nat} (hF : F_Named_rowOf N p0 H = some r) (hC : r.2.sh.length ≤ H.sh.length + C) (hS : r.2.sl ≤ H.sl + Sl) : ab_M y_Named_rowOf { frames := 2, cells := C, slots := Sl, locals := 80 } [.int p0] (hpw H) (po (.returned (some (ab_rf r.1))) r.2) := by
  unfold F_Named_rowOf at hF
  obtain ⟨c0, e0⟩ : ∃ q, q = H.sh.length := ⟨_, rfl⟩
  obtain ⟨s0, e1⟩ : ∃ q, q = H.sl := ⟨_, rfl⟩
  rw [← e0] at hC
  rw [← e1] at hS
  have hc0 : c0 ≤ H.sh.length := Nat.le_of_eq e0
  have hs0 : s0 ≤ H.sl := Nat.le_of_eq e1
  have hcc : H.sh.length ≤ c0 + C := by omega
  have hss : H.sl ≤ s0 + Sl := by omega
  refine ab_of2 (lv := [some (.int p0), none, none]) 2 rfl rfl (Nat.le_of_ble_eq_true rfl) ?_
  refine ab_widen (cells' := H.sh.length - c0) (slots' := H.sl - s0) (Nat.zero_le _) (Nat.zero_le _) ?_
  refine ab_iconst (v := 0) d_Named_rowOf_0 (by decide) ?_
  refine ab_iload_n d_Named_rowOf_1 rfl rfl ?_
  obtain ⟨v2, H3, z1, hG⟩ := bC_s hF; clear hF
  refine hp_callS_a (v := .int v2) (H1 := H3) (As := [.int 0, .int p0]) (rest := []) d_Named_rowOf_2 (k_Math_max z1) (ab_mkC s_Math_max (Nat.le_of_ble_eq_true rfl) (Nat.le_of_ble_eq_true rfl) (show (H.sh.length - c0) + 0 ≤ C from by omega) (show (H.sl - s0) + 0 ≤ Sl from by omega)) (k2 217 rfl rfl) t_Math_max rfl (Nat.le_of_ble_eq_true rfl) ?_
  have s_2 : Sa H H3 := (m_Math_max z1)
  refine ab_widen (cells' := H.sh.length - c0) (slots' := H.sl - s0) (by show (H.sh.length - c0) + 0 ≤ _; omega) (by show (H.sl - s0) + 0 ≤ _; omega) ?_
  obtain ⟨q4, hF⟩ := ck_s hG; clear hG
  obtain ⟨q5, hG⟩ := ck_s hF; clear hF
  obtain ⟨H6, eH6, hF⟩ := bnd_g hG; clear hG
  obtain ⟨a7, ea7, hG⟩ := bnd_g hF; clear hF
  have m_3 : Mo H3 H6 := by rw [eH6]; exact Mo.nw _ _ _
  have b_4l := (m_3).len
  have b_4s := (m_3).2
  have b_4e := congrArg List.length (s_2).1
  have b_4f := (s_2).2
  have b_4c : c0 ≤ H6.sh.length := by omega
  have b_4d : s0 ≤ H6.sl := by omega
  have b_4x : H6.sh.length = H3.sh.length + 1 := by rw [eH6]; simp [Hp.nw, mkH_sh]
  have b_4y : H6.sl = H3.sl + (v2).toNatClampNeg := by rw [eH6]; rfl
  have fH6 : Mo H6 r.2 := by
    have hm := Mo.rf H6
    exact hm.tr (mB_Named_rowOf_11 N a7 0 H6 r hG)
  have b_4m := (fH6).len
  have b_4n := (fH6).2
  have b_4p : H6.sh.length ≤ c0 + C := by omega
  have b_4q : H6.sl ≤ s0 + Sl := by omega
  refine ab_widen (cells' := H3.sh.length - c0) (slots' := H3.sl - s0) (by rw [(s_2).1]; exact Nat.le_refl _) (by rw [(s_2).2]; exact Nat.le_refl _) ?_
  refine hp_anew (q := 106) d_Named_rowOf_5 (k2 220 rfl rfl) (k2 221 rfl rfl) tN ⟨by decide, rfl⟩ q4 q5 (by show _ ≤ C; omega) (by show _ + (v2).toNatClampNeg ≤ Sl; omega) ?_
  refine ab_widen (cells' := H6.sh.length - c0) (slots' := H6.sl - s0) (by omega) (by show _ + (v2).toNatClampNeg ≤ _; omega) ?_
  rw [← eH6, ← ea7]
  clear b_4l b_4s b_4x b_4y b_4m b_4n b_4e b_4f
  refine ab_astore_n (lv' := [some (.int p0), some (.ref a7), none]) d_Named_rowOf_8 rfl (by decide) rfl rfl ?_
  refine ab_iconst (v := 0) d_Named_rowOf_9 (by decide) ?_
  refine ab_istore_n (lv' := [some (.int p0), some (.ref a7), some (.int 0)]) d_Named_rowOf_10 rfl (by decide) rfl ?_
  exact kB_Named_rowOf_11 N a7 0 H6 r hG b_4c b_4d b_4p b_4q hC hS
def y_Shapes_init : ab_Y := (⟨"WorldEngine$Shapes", "<init>", "(II)V"⟩, prog_9_method_1_code, 3, none, [])
theorem d_Shapes_init_0 : decode y_Shapes_init.2.1 0 = .ok (.aload_n 0, 1) := by decide +kernel
theorem d_Shapes_init_1 : decode y_Shapes_init.2.1 1 = .ok (.invokespecial 1, 3) := by decide +kernel
theorem d_Shapes_init_4 : decode y_Shapes_init.2.1 4 = .ok (.aload_n 0, 1) := by decide +kernel
theorem d_Shapes_init_5 : decode y_Shapes_init.2.1 5 = .ok (.iload_n 1, 1) := by decide +kernel
theorem d_Shapes_init_6 : decode y_Shapes_init.2.1 6 = .ok (.invokestatic 7, 3) := by decide +kernel
theorem d_Shapes_init_9 : decode y_Shapes_init.2.1 9 = .ok (.putfield 13, 3) := by decide +kernel
theorem d_Shapes_init_12 : decode y_Shapes_init.2.1 12 = .ok (.aload_n 0, 1) := by decide +kernel
theorem d_Shapes_init_13 : decode y_Shapes_init.2.1 13 = .ok (.iload_n 2, 1) := by decide +kernel
theorem d_Shapes_init_14 : decode y_Shapes_init.2.1 14 = .ok (.invokestatic 7, 3) := by decide +kernel
theorem d_Shapes_init_17 : decode y_Shapes_init.2.1 17 = .ok (.putfield 19, 3) := by decide +kernel
theorem d_Shapes_init_20 : decode y_Shapes_init.2.1 20 = .ok (.aload_n 0, 1) := by decide +kernel
theorem d_Shapes_init_21 : decode y_Shapes_init.2.1 21 = .ok (.iconst 0, 1) := by decide +kernel
theorem d_Shapes_init_22 : decode y_Shapes_init.2.1 22 = .ok (.iload_n 1, 1) := by decide +kernel
theorem d_Shapes_init_23 : decode y_Shapes_init.2.1 23 = .ok (.invokestatic 22, 3) := by decide +kernel
theorem d_Shapes_init_26 : decode y_Shapes_init.2.1 26 = .ok (.iconst 1, 1) := by decide +kernel
theorem d_Shapes_init_27 : decode y_Shapes_init.2.1 27 = .ok (.iadd, 1) := by decide +kernel
theorem d_Shapes_init_28 : decode y_Shapes_init.2.1 28 = .ok (.newarray .int, 2) := by decide +kernel
theorem d_Shapes_init_30 : decode y_Shapes_init.2.1 30 = .ok (.putfield 28, 3) := by decide +kernel
theorem d_Shapes_init_33 : decode y_Shapes_init.2.1 33 = .ok (.return_, 1) := by decide +kernel
theorem s_Shapes_init : ab_Stat y_Shapes_init 2 := ⟨(k3 19 rfl rfl), (k1 18 rfl rfl), ⟨by decide, by decide⟩, by decide +kernel⟩
theorem i_Shapes_init : Cond.instanceMethod y_Shapes_init.1 ∈ ab_T := (k3 18 rfl rfl)
def F_Shapes_init (N : Nat) (p0 : Nat) (p1 : Int32) (p2 : Int32) (H : Hp) : Option (Unit × Hp) :=
    bC (F_Named_rowOf N p1 H) fun v2 H3 =>
    on v2 fun a4 =>
    ck (H3.sh[p0]? = some (3, 0)) <|
    bnd (H3.sP p0 0 (.ref a4)) fun H6 =>
    bC (F_Named_rowOf N p2 H6) fun v8 H9 =>
    on v8 fun a10 =>
    bnd (H9.sP p0 1 (.ref a10)) fun H11 =>
    bC (F_Math_max N (0 : Int32) p1 H11) fun v13 H14 =>
    ck (¬ (v13 + (1 : Int32)) < 0) <|
    ck (((v13 + (1 : Int32))).toNatClampNeg * 4 ≤ 536870912) <|
    bnd (H14.nw (100, ((v13 + (1 : Int32))).toNatClampNeg) ((v13 + (1 : Int32))).toNatClampNeg) fun H17 =>
    bnd H14.sh.length fun a18 =>
    bnd (H17.sP p0 2 (.ref a18)) fun H19 =>
    some ((), H19)
set_option maxRecDepth 20000 in
set_option maxHeartbeats 2000000 in
theorem m_Shapes_init {N : Nat} {p0 : Nat} {p1 : Int32} {p2 : Int32} {H : Hp} {r : Unit × Hp} (hF : F_Shapes_init N p0 p1 p2 H = some r) : Mo H r.2 := by
  unfold F_Shapes_init at hF
  have hm := Mo.rf H
  obtain ⟨v21, H22, z20, hG⟩ := bC_s hF; clear hF
  replace hm : Mo H H22 := hm.tr (m_Named_rowOf z20)
  obtain ⟨a23, ea23, hF⟩ := on_s hG; clear hG
  subst ea23
  obtain ⟨q24, hG⟩ := ck_s hF; clear hF
  obtain ⟨H25, eH25, hF⟩ := bnd_g hG; clear hG
  replace hm : Mo H H25 := by rw [eH25]; exact hm
  obtain ⟨v27, H28, z26, hG⟩ := bC_s hF; clear hF
  replace hm : Mo H H28 := hm.tr (m_Named_rowOf z26)
  obtain ⟨a29, ea29, hF⟩ := on_s hG; clear hG
  subst ea29
  obtain ⟨H30, eH30, hG⟩ := bnd_g hF; clear hF
  replace hm : Mo H H30 := by rw [eH30]; exact hm
  obtain ⟨v32, H33, z31, hF⟩ := bC_s hG; clear hG
  replace hm : Mo H H33 := hm.tr ((m_Math_max z31)).mo
  obtain ⟨q34, hG⟩ := ck_s hF; clear hF
  obtain ⟨q35, hF⟩ := ck_s hG; clear hG
  obtain ⟨H36, eH36, hG⟩ := bnd_g hF; clear hF
  replace hm : Mo H H36 := hm.tr (by rw [eH36]; exact Mo.nw _ _ _)
  obtain ⟨a37, -, hF⟩ := bnd_g hG; clear hG
  obtain ⟨H38, eH38, hG⟩ := bnd_g hF; clear hF
  replace hm : Mo H H38 := by rw [eH38]; exact hm
  have hr := Option.some.inj hG; subst hr
  exact hm
set_option maxRecDepth 20000 in
set_option maxHeartbeats 2000000 in
theorem k_Shapes_init {N : Nat} {p0 : Nat} {p1 : Int32} {p2 : Int32} {H : Hp} {r : Unit × Hp} {C Sl : Nat} (hF : F_Shapes_init N p0 p1 p2 H = some r) (hC : r.2.sh.length ≤ H.sh.length + C) (hS : r.2.sl ≤ H.sl + Sl) : ab_M y_Shapes_init { frames := 3, cells := C, slots := Sl, locals := 102 } [.ref p0, .int p1, .int p2] (hpw H) (po (.returned none) r.2) := by
  unfold F_Shapes_init at hF
  obtain ⟨c0, e0⟩ : ∃ q, q = H.sh.length := ⟨_, rfl⟩
  obtain ⟨s0, e1⟩ : ∃ q, q = H.sl := ⟨_, rfl⟩
  rw [← e0] at hC
  rw [← e1] at hS
  have hc0 : c0 ≤ H.sh.length := Nat.le_of_eq e0
  have hs0 : s0 ≤ H.sl := Nat.le_of_eq e1
  have hcc : H.sh.length ≤ c0 + C := by omega
  have hss : H.sl ≤ s0 + Sl := by omega
  refine ab_of2 (lv := [some (.ref p0), some (.int p1), some (.int p2)]) 0 rfl rfl (Nat.le_of_ble_eq_true rfl) ?_
  refine ab_widen (cells' := H.sh.length - c0) (slots' := H.sl - s0) (Nat.zero_le _) (Nat.zero_le _) ?_
  refine ab_aload_n d_Shapes_init_0 rfl rfl rfl ?_
  refine ab_objInit d_Shapes_init_1 (k3 20 rfl rfl) (k1 37 rfl rfl) (k1 38 rfl rfl) (Nat.le_of_ble_eq_true rfl) (Nat.le_of_ble_eq_true rfl) ?_
  refine ab_aload_n d_Shapes_init_4 rfl rfl rfl ?_
  refine ab_iload_n d_Shapes_init_5 rfl rfl ?_
  obtain ⟨v2, H3, z1, hG⟩ := bC_s hF; clear hF
  have mz_1 : Mo H H3 := (m_Named_rowOf z1)
  have b_2l := (mz_1).len
  have b_2s := (mz_1).2
  have b_2c : c0 ≤ H3.sh.length := by omega
  have b_2d : s0 ≤ H3.sl := by omega
  have mf_3 : Mo H3 r.2 := by
    have hm := Mo.rf H3
    obtain ⟨a4, ea4, hF⟩ := on_s hG; clear hG
    subst ea4
    obtain ⟨q5, hG⟩ := ck_s hF; clear hF
    obtain ⟨H6, eH6, hF⟩ := bnd_g hG; clear hG
    replace hm : Mo H3 H6 := by rw [eH6]; exact hm
    obtain ⟨v8, H9, z7, hG⟩ := bC_s hF; clear hF
    replace hm : Mo H3 H9 := hm.tr (m_Named_rowOf z7)
    obtain ⟨a10, ea10, hF⟩ := on_s hG; clear hG
    subst ea10
    obtain ⟨H11, eH11, hG⟩ := bnd_g hF; clear hF
    replace hm : Mo H3 H11 := by rw [eH11]; exact hm
    obtain ⟨v13, H14, z12, hF⟩ := bC_s hG; clear hG
    replace hm : Mo H3 H14 := hm.tr ((m_Math_max z12)).mo
    obtain ⟨q15, hG⟩ := ck_s hF; clear hF
    obtain ⟨q16, hF⟩ := ck_s hG; clear hG
    obtain ⟨H17, eH17, hG⟩ := bnd_g hF; clear hF
    replace hm : Mo H3 H17 := hm.tr (by rw [eH17]; exact Mo.nw _ _ _)
    obtain ⟨a18, -, hF⟩ := bnd_g hG; clear hG
    obtain ⟨H19, eH19, hG⟩ := bnd_g hF; clear hF
    replace hm : Mo H3 H19 := by rw [eH19]; exact hm
    have hr := Option.some.inj hG; subst hr
    exact hm
  have b_2m := (mf_3).len
  have b_2n := (mf_3).2
  have b_2p : H3.sh.length ≤ c0 + C := by omega
  have b_2q : H3.sl ≤ s0 + Sl := by omega
  refine hp_callS_a (v := ab_rf v2) (H1 := H3) (As := [.int p1]) (rest := [.ref p0]) d_Shapes_init_6 (k_Named_rowOf z1 (C := H3.sh.length - H.sh.length) (Sl := H3.sl - H.sl) (by show H3.sh.length ≤ _; omega) (by show H3.sl ≤ _; omega)) (ab_mkC s_Named_rowOf (Nat.le_of_ble_eq_true rfl) (Nat.le_of_ble_eq_true rfl) (show (H.sh.length - c0) + (H3.sh.length - H.sh.length) ≤ C from by omega) (show (H.sl - s0) + (H3.sl - H.sl) ≤ Sl from by omega)) (k3 21 rfl rfl) t_Named_rowOf rfl (Nat.le_of_ble_eq_true rfl) ?_
  refine ab_widen (cells' := H3.sh.length - c0) (slots' := H3.sl - s0) (by show _ + (H3.sh.length - H.sh.length) ≤ _; omega) (by show _ + (H3.sl - H.sl) ≤ _; omega) ?_
  clear b_2l b_2s b_2m b_2n
  obtain ⟨a4, ea4, hF⟩ := on_s hG; clear hG
  subst ea4
  obtain ⟨q5, hG⟩ := ck_s hF; clear hF
  refine hp_putFP (v := .ref a4) (f := 0) d_Shapes_init_9 q5 (by decide) rfl (by decide) (k3 23 rfl rfl) rfl rfl rfl rfl (fun _ => rfl) (fun _ => rfl) rfl ?_
  refine hp_gen (fun H6 eH6 => ?_)
  replace hG := bnd_s eH6 hG
  have s_10 : Sa H3 H6 := by rw [eH6]; exact Sa.rf _
  refine ab_aload_n d_Shapes_init_12 rfl rfl rfl ?_
  refine ab_iload_n d_Shapes_init_13 rfl rfl ?_
  obtain ⟨v8, H9, z7, hF⟩ := bC_s hG; clear hG
  refine ab_widen (cells' := H6.sh.length - c0) (slots' := H6.sl - s0) (by rw [(s_10).1]; exact Nat.le_refl _) (by rw [(s_10).2]; exact Nat.le_refl _) ?_
  have mz_11 : Mo H6 H9 := (m_Named_rowOf z7)
  have b_12l := (mz_11).len
  have b_12s := (mz_11).2
  have b_12e := congrArg List.length (s_10).1
  have b_12f := (s_10).2
  have b_12c : c0 ≤ H9.sh.length := by omega
  have b_12d : s0 ≤ H9.sl := by omega
  have q_13 := (mz_11).get (by rw [(s_10).1]; exact q5)
  have mf_14 : Mo H9 r.2 := by
    have hm := Mo.rf H9
    obtain ⟨a10, ea10, hG⟩ := on_s hF; clear hF
    subst ea10
    obtain ⟨H11, eH11, hF⟩ := bnd_g hG; clear hG
    replace hm : Mo H9 H11 := by rw [eH11]; exact hm
    obtain ⟨v13, H14, z12, hG⟩ := bC_s hF; clear hF
    replace hm : Mo H9 H14 := hm.tr ((m_Math_max z12)).mo
    obtain ⟨q15, hF⟩ := ck_s hG; clear hG
    obtain ⟨q16, hG⟩ := ck_s hF; clear hF
    obtain ⟨H17, eH17, hF⟩ := bnd_g hG; clear hG
    replace hm : Mo H9 H17 := hm.tr (by rw [eH17]; exact Mo.nw _ _ _)
    obtain ⟨a18, -, hG⟩ := bnd_g hF; clear hF
    obtain ⟨H19, eH19, hF⟩ := bnd_g hG; clear hG
    replace hm : Mo H9 H19 := by rw [eH19]; exact hm
    have hr := Option.some.inj hF; subst hr
    exact hm
  have b_12m := (mf_14).len
  have b_12n := (mf_14).2
  have b_12p : H9.sh.length ≤ c0 + C := by omega
  have b_12q : H9.sl ≤ s0 + Sl := by omega
  refine hp_callS_a (v := ab_rf v8) (H1 := H9) (As := [.int p2]) (rest := [.ref p0]) d_Shapes_init_14 (k_Named_rowOf z7 (C := H9.sh.length - H6.sh.length) (Sl := H9.sl - H6.sl) (by show H9.sh.length ≤ _; omega) (by show H9.sl ≤ _; omega)) (ab_mkC s_Named_rowOf (Nat.le_of_ble_eq_true rfl) (Nat.le_of_ble_eq_true rfl) (show (H6.sh.length - c0) + (H9.sh.length - H6.sh.length) ≤ C from by omega) (show (H6.sl - s0) + (H9.sl - H6.sl) ≤ Sl from by omega)) (k3 21 rfl rfl) t_Named_rowOf rfl (Nat.le_of_ble_eq_true rfl) ?_
  refine ab_widen (cells' := H9.sh.length - c0) (slots' := H9.sl - s0) (by show _ + (H9.sh.length - H6.sh.length) ≤ _; omega) (by show _ + (H9.sl - H6.sl) ≤ _; omega) ?_
  clear b_12l b_12s b_12m b_12n b_12e b_12f b_2c b_2d b_2p b_2q
  obtain ⟨a10, ea10, hG⟩ := on_s hF; clear hF
  subst ea10
  refine hp_putFP (v := .ref a10) (f := 1) d_Shapes_init_17 q_13 (by decide) rfl (by decide) (k3 25 rfl rfl) rfl rfl rfl rfl (fun _ => rfl) (fun _ => rfl) rfl ?_
  refine hp_gen (fun H11 eH11 => ?_)
  replace hG := bnd_s eH11 hG
  have s_18 : Sa H9 H11 := by rw [eH11]; exact Sa.rf _
  refine ab_aload_n d_Shapes_init_20 rfl rfl rfl ?_
  refine ab_iconst (v := 0) d_Shapes_init_21 (by decide) ?_
  refine ab_iload_n d_Shapes_init_22 rfl rfl ?_
  obtain ⟨v13, H14, z12, hF⟩ := bC_s hG; clear hG
  refine ab_widen (cells' := H11.sh.length - c0) (slots' := H11.sl - s0) (by rw [(s_18).1]; exact Nat.le_refl _) (by rw [(s_18).2]; exact Nat.le_refl _) ?_
  have b_19e := congrArg List.length (s_18).1
  have b_19f := (s_18).2
  refine hp_callS_a (v := .int v13) (H1 := H14) (As := [.int 0, .int p1]) (rest := [.ref p0]) d_Shapes_init_23 (k_Math_max z12) (ab_mkC s_Math_max (Nat.le_of_ble_eq_true rfl) (Nat.le_of_ble_eq_true rfl) (show (H11.sh.length - c0) + 0 ≤ C from by omega) (show (H11.sl - s0) + 0 ≤ Sl from by omega)) (k3 22 rfl rfl) t_Math_max rfl (Nat.le_of_ble_eq_true rfl) ?_
  have s_20 : Sa H9 H14 := (s_18).tr (m_Math_max z12)
  refine ab_widen (cells' := H9.sh.length - c0) (slots' := H9.sl - s0) (by show (H11.sh.length - c0) + 0 ≤ _; omega) (by show (H11.sl - s0) + 0 ≤ _; omega) ?_
  clear b_19e b_19f
  refine ab_iconst (v := 1) d_Shapes_init_26 (by decide) ?_
  refine ab_iadd d_Shapes_init_27 ?_
  obtain ⟨q15, hG⟩ := ck_s hF; clear hF
  obtain ⟨q16, hF⟩ := ck_s hG; clear hG
  obtain ⟨H17, eH17, hG⟩ := bnd_g hF; clear hF
  obtain ⟨a18, ea18, hF⟩ := bnd_g hG; clear hG
  have m_21 : Mo H14 H17 := by rw [eH17]; exact Mo.nw _ _ _
  have b_22l := (m_21).len
  have b_22s := (m_21).2
  have b_22e := congrArg List.length (s_20).1
  have b_22f := (s_20).2
  have b_22c : c0 ≤ H17.sh.length := by omega
  have b_22d : s0 ≤ H17.sl := by omega
  have b_22x : H17.sh.length = H14.sh.length + 1 := by rw [eH17]; simp [Hp.nw, mkH_sh]
  have b_22y : H17.sl = H14.sl + ((v13 + (1 : Int32))).toNatClampNeg := by rw [eH17]; rfl
  have q_23 := (m_21).get (by rw [(s_20).1]; exact q_13)
  obtain ⟨H19, eH19, hG⟩ := bnd_g hF; clear hF
  have jH19 : Mo H17 H19 := by rw [eH19]; exact Mo.rf _
  have fH19 : Mo H19 r.2 := by
    have hm := Mo.rf H19
    have hr := Option.some.inj hG; subst hr
    exact hm
  have fH17 : Mo H17 r.2 := jH19.tr fH19
  have b_22m := (fH17).len
  have b_22n := (fH17).2
  have b_22p : H17.sh.length ≤ c0 + C := by omega
  have b_22q : H17.sl ≤ s0 + Sl := by omega
  refine ab_widen (cells' := H14.sh.length - c0) (slots' := H14.sl - s0) (by rw [(s_20).1]; exact Nat.le_refl _) (by rw [(s_20).2]; exact Nat.le_refl _) ?_
  refine hp_newa (q := 100) d_Shapes_init_28 rfl (k1 143 rfl rfl) tI (Or.inl rfl) ⟨by decide, by decide, rfl⟩ rfl q15 q16 (by show _ ≤ C; omega) (by show _ + ((v13 + (1 : Int32))).toNatClampNeg ≤ Sl; omega) ?_
  refine ab_widen (cells' := H17.sh.length - c0) (slots' := H17.sl - s0) (by omega) (by show _ + ((v13 + (1 : Int32))).toNatClampNeg ≤ _; omega) ?_
  rw [← eH17, ← ea18]
  clear b_22l b_22s b_22x b_22y b_22m b_22n b_22e b_22f b_12c b_12d b_12p b_12q
  refine hp_putFP (v := .ref a18) (f := 2) d_Shapes_init_30 q_23 (by decide) rfl (by decide) (k3 32 rfl rfl) rfl rfl rfl rfl (fun _ => rfl) (fun _ => rfl) rfl ?_
  refine hp_genx eH19 ?_
  have s_25 : Sa H17 H19 := by rw [eH19]; exact Sa.rf _
  exact ab_vret d_Shapes_init_33 rfl (by show _ ≤ C; omega) (by show _ ≤ Sl; omega) (by have hr := Option.some.inj hG; subst hr; exact ⟨rfl, rfl⟩)
