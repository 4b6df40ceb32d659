def y_M_reads : ab_Y := (⟨"WorldEngineModel", "reads", "()Z"⟩, prog_14_method_7_code, 1, (some FieldType.boolean), [])
theorem d_M_reads_0 : decode y_M_reads.2.1 0 = .ok (.aload_n 0, 1) := by decide +kernel
theorem d_M_reads_1 : decode y_M_reads.2.1 1 = .ok (.getfield 20, 3) := by decide +kernel
theorem d_M_reads_4 : decode y_M_reads.2.1 4 = .ok (.aload_n 0, 1) := by decide +kernel
theorem d_M_reads_5 : decode y_M_reads.2.1 5 = .ok (.getfield 9, 3) := by decide +kernel
theorem d_M_reads_8 : decode y_M_reads.2.1 8 = .ok (.aload_n 0, 1) := by decide +kernel
theorem d_M_reads_9 : decode y_M_reads.2.1 9 = .ok (.getfield 96, 3) := by decide +kernel
theorem d_M_reads_12 : decode y_M_reads.2.1 12 = .ok (.invokevirtual 103, 3) := by decide +kernel
theorem d_M_reads_15 : decode y_M_reads.2.1 15 = .ok (.aload_n 0, 1) := by decide +kernel
theorem d_M_reads_16 : decode y_M_reads.2.1 16 = .ok (.iconst 0, 1) := by decide +kernel
theorem d_M_reads_17 : decode y_M_reads.2.1 17 = .ok (.putfield 96, 3) := by decide +kernel
theorem d_M_reads_20 : decode y_M_reads.2.1 20 = .ok (.aload_n 0, 1) := by decide +kernel
theorem d_M_reads_21 : decode y_M_reads.2.1 21 = .ok (.aload_n 0, 1) := by decide +kernel
theorem d_M_reads_22 : decode y_M_reads.2.1 22 = .ok (.getfield 20, 3) := by decide +kernel
theorem d_M_reads_25 : decode y_M_reads.2.1 25 = .ok (.getfield 107, 3) := by decide +kernel
theorem d_M_reads_28 : decode y_M_reads.2.1 28 = .ok (.ifCond .ne 7, 3) := by decide +kernel
theorem d_M_reads_31 : decode y_M_reads.2.1 31 = .ok (.iconst (-1), 1) := by decide +kernel
theorem d_M_reads_32 : decode y_M_reads.2.1 32 = .ok (.goto 10, 3) := by decide +kernel
theorem d_M_reads_35 : decode y_M_reads.2.1 35 = .ok (.aload_n 0, 1) := by decide +kernel
theorem d_M_reads_36 : decode y_M_reads.2.1 36 = .ok (.getfield 20, 3) := by decide +kernel
theorem d_M_reads_39 : decode y_M_reads.2.1 39 = .ok (.getfield 107, 3) := by decide +kernel
theorem d_M_reads_42 : decode y_M_reads.2.1 42 = .ok (.putfield 23, 3) := by decide +kernel
theorem d_M_reads_45 : decode y_M_reads.2.1 45 = .ok (.aload_n 0, 1) := by decide +kernel
theorem d_M_reads_46 : decode y_M_reads.2.1 46 = .ok (.aload_n 0, 1) := by decide +kernel
theorem d_M_reads_47 : decode y_M_reads.2.1 47 = .ok (.getfield 20, 3) := by decide +kernel
theorem d_M_reads_50 : decode y_M_reads.2.1 50 = .ok (.getfield 107, 3) := by decide +kernel
theorem d_M_reads_53 : decode y_M_reads.2.1 53 = .ok (.ifCond .ne 7, 3) := by decide +kernel
theorem d_M_reads_56 : decode y_M_reads.2.1 56 = .ok (.iconst (-1), 1) := by decide +kernel
theorem d_M_reads_57 : decode y_M_reads.2.1 57 = .ok (.goto 10, 3) := by decide +kernel
theorem d_M_reads_60 : decode y_M_reads.2.1 60 = .ok (.aload_n 0, 1) := by decide +kernel
theorem d_M_reads_61 : decode y_M_reads.2.1 61 = .ok (.getfield 20, 3) := by decide +kernel
theorem d_M_reads_64 : decode y_M_reads.2.1 64 = .ok (.getfield 110, 3) := by decide +kernel
theorem d_M_reads_67 : decode y_M_reads.2.1 67 = .ok (.putfield 27, 3) := by decide +kernel
theorem d_M_reads_70 : decode y_M_reads.2.1 70 = .ok (.aload_n 0, 1) := by decide +kernel
theorem d_M_reads_71 : decode y_M_reads.2.1 71 = .ok (.getfield 20, 3) := by decide +kernel
theorem d_M_reads_74 : decode y_M_reads.2.1 74 = .ok (.getfield 107, 3) := by decide +kernel
theorem d_M_reads_77 : decode y_M_reads.2.1 77 = .ok (.ifCond .ne 7, 3) := by decide +kernel
theorem d_M_reads_80 : decode y_M_reads.2.1 80 = .ok (.iconst 1, 1) := by decide +kernel
theorem d_M_reads_81 : decode y_M_reads.2.1 81 = .ok (.goto 4, 3) := by decide +kernel
theorem d_M_reads_84 : decode y_M_reads.2.1 84 = .ok (.iconst 0, 1) := by decide +kernel
theorem d_M_reads_85 : decode y_M_reads.2.1 85 = .ok (.ireturn, 1) := by decide +kernel
theorem s_M_reads : ab_Stat y_M_reads 0 := ⟨(k10 103 rfl rfl), (k1 19 rfl rfl), ⟨by decide, by decide⟩, by decide +kernel⟩
theorem i_M_reads : Cond.instanceMethod y_M_reads.1 ∈ ab_T := (k10 102 rfl rfl)
theorem v_M_reads : Cond.selects "WorldEngineModel" y_M_reads.1 y_M_reads.1 ∈ ab_T := ab_s (List.mem_of_getElem? (i := 106) rfl) rfl
def B_M_reads_67 (N : Nat) (p0 : Nat) (w0 : Nat) (w1 : Int32) (H : Hp) : Option (Int32 × Hp) :=
    ck (H.sh[w0]? = some (12, 0)) <|
    bnd (H.sD w0 7 w1) fun H34 =>
    ck (H34.sh[p0]? = some (12, 0)) <|
    rf (H34.P p0 4) fun a36 =>
    ck (H34.sh[a36]? = some (14, 0)) <|
    bnd ((H34.D a36 9)) fun x39 =>
    if x39 = (0 : Int32) then
    some (1, H34)
    else
    some (0, H34)
set_option maxRecDepth 20000 in
set_option maxHeartbeats 2000000 in
theorem mB_M_reads_67 {N : Nat} {p0 : Nat} {w0 : Nat} {w1 : Int32} {H : Hp} {r : Int32 × Hp} (hF : B_M_reads_67 N p0 w0 w1 H = some r) : Sa H r.2 := by
  unfold B_M_reads_67 at hF
  have hm := Sa.rf H
  obtain ⟨q41, hG⟩ := ck_s hF; clear hF
  obtain ⟨H42, eH42, hF⟩ := bnd_g hG; clear hG
  replace hm : Sa H H42 := by rw [eH42]; exact hm
  obtain ⟨q43, hG⟩ := ck_s hF; clear hF
  obtain ⟨a44, e45, hF⟩ := rf_s hG; clear hG
  obtain ⟨q46, hG⟩ := ck_s hF; clear hF
  obtain ⟨x47, -, hF⟩ := bnd_g hG; clear hG
  rcases ite_s hF with ⟨q_6, hG⟩ | ⟨q_6, hG⟩
  · clear hF
    have hr := Option.some.inj hG; subst hr
    exact hm
  · clear hF
    have hr := Option.some.inj hG; subst hr
    exact hm
set_option maxRecDepth 20000 in
set_option maxHeartbeats 2000000 in
theorem kB_M_reads_67 {N : Nat} {p0 : Nat} {w0 : Nat} {w1 : Int32} {H : Hp} {r : Int32 × Hp} (hF : B_M_reads_67 N p0 w0 w1 H = some r) : ab_V y_M_reads { frames := 357, cells := 0, slots := 0, locals := 8078 } (po (.returned (some (.int r.1))) r.2) 0 0 0 0 67 [some (.ref p0)] [.int w1, .ref w0] (hpw H) := by
  unfold B_M_reads_67 at hF
  obtain ⟨q33, hG⟩ := ck_s hF; clear hF
  refine hp_putI (v := w1) (f := 7) d_M_reads_67 q33 (by decide) rfl (by decide) (k10 0 rfl rfl) rfl rfl (fun _ => rfl) (fun _ => rfl) rfl ?_
  refine hp_gen (fun H34 eH34 => ?_)
  replace hG := bnd_s eH34 hG
  have s_4 : Sa H H34 := by rw [eH34]; exact Sa.rf _
  refine ab_aload_n d_M_reads_70 rfl rfl rfl ?_
  obtain ⟨q35, hF⟩ := ck_s hG; clear hG
  rw [(s_4).1] at q35
  obtain ⟨a36, e37, hG⟩ := rf_s hF; clear hF
  refine hp_getR (f := 4) d_M_reads_71 (by rw [(s_4).1]; exact q35) (by decide) rfl (by decide) (k9 237 rfl rfl) rfl e37 ?_
  obtain ⟨q38, hF⟩ := ck_s hG; clear hG
  rw [(s_4).1] at q38
  refine hp_getIN (f := 9) d_M_reads_74 (by rw [(s_4).1]; exact q38) (by decide) rfl (by decide) (k8 171 rfl rfl) rfl ?_
  refine ab_topi (fun x39 ex39 => ?_)
  replace hF := bnd_s ex39 hF
  refine ab_if_ne (tgt := 84) d_M_reads_77 (by decide) (fun q40 => ?_) (fun q40 => ?_)
  · rw [if_neg q40] at hF
    refine ab_iconst (v := 0) d_M_reads_84 (by decide) ?_
    exact ab_zret d_M_reads_85 rfl rfl (Nat.le_refl _) (Nat.le_refl _) (by have hr := Option.some.inj hF; subst hr; exact ⟨rfl, rfl⟩)
  · rw [if_pos q40] at hF
    refine ab_iconst (v := 1) d_M_reads_80 (by decide) ?_
    refine ab_goto (tgt := 85) d_M_reads_81 (by decide) ?_
    exact ab_zret d_M_reads_85 rfl rfl (Nat.le_refl _) (Nat.le_refl _) (by have hr := Option.some.inj hF; subst hr; exact ⟨rfl, rfl⟩)
def B_M_reads_42 (N : Nat) (p0 : Nat) (w0 : Nat) (w1 : Int32) (H : Hp) : Option (Int32 × Hp) :=
    ck (H.sh[w0]? = some (12, 0)) <|
    bnd (H.sD w0 6 w1) fun H22 =>
    ck (H22.sh[p0]? = some (12, 0)) <|
    rf (H22.P p0 4) fun a24 =>
    ck (H22.sh[a24]? = some (14, 0)) <|
    bnd ((H22.D a24 9)) fun x27 =>
    if x27 = (0 : Int32) then
    B_M_reads_67 N p0 p0 (-1) H22
    else
    rf (H22.P p0 4) fun a29 =>
    ck (H22.sh[a29]? = some (14, 0)) <|
    bnd ((H22.D a29 10)) fun x32 =>
    B_M_reads_67 N p0 p0 x32 H22
set_option maxRecDepth 20000 in
set_option maxHeartbeats 2000000 in
theorem mB_M_reads_42 {N : Nat} {p0 : Nat} {w0 : Nat} {w1 : Int32} {H : Hp} {r : Int32 × Hp} (hF : B_M_reads_42 N p0 w0 w1 H = some r) : Sa H r.2 := by
  unfold B_M_reads_42 at hF
  have hm := Sa.rf H
  obtain ⟨q49, hG⟩ := ck_s hF; clear hF
  obtain ⟨H50, eH50, hF⟩ := bnd_g hG; clear hG
  replace hm : Sa H H50 := by rw [eH50]; exact hm
  obtain ⟨q51, hG⟩ := ck_s hF; clear hF
  obtain ⟨a52, e53, hF⟩ := rf_s hG; clear hG
  obtain ⟨q54, hG⟩ := ck_s hF; clear hF
  obtain ⟨x55, -, hF⟩ := bnd_g hG; clear hG
  rcases ite_s hF with ⟨q_8, hG⟩ | ⟨q_8, hG⟩
  · clear hF
    exact hm.tr (mB_M_reads_67 hG)
  · clear hF
    obtain ⟨a57, e58, hF⟩ := rf_s hG; clear hG
    obtain ⟨q59, hG⟩ := ck_s hF; clear hF
    obtain ⟨x60, -, hF⟩ := bnd_g hG; clear hG
    exact hm.tr (mB_M_reads_67 hF)
set_option maxRecDepth 20000 in
set_option maxHeartbeats 2000000 in
theorem kB_M_reads_42 {N : Nat} {p0 : Nat} {w0 : Nat} {w1 : Int32} {H : Hp} {r : Int32 × Hp} (hF : B_M_reads_42 N p0 w0 w1 H = some r) : ab_V y_M_reads { frames := 357, cells := 0, slots := 0, locals := 8078 } (po (.returned (some (.int r.1))) r.2) 0 0 0 0 42 [some (.ref p0)] [.int w1, .ref w0] (hpw H) := by
  unfold B_M_reads_42 at hF
  obtain ⟨q21, hG⟩ := ck_s hF; clear hF
  refine hp_putI (v := w1) (f := 6) d_M_reads_42 q21 (by decide) rfl (by decide) (k9 239 rfl rfl) rfl rfl (fun _ => rfl) (fun _ => rfl) rfl ?_
  refine hp_gen (fun H22 eH22 => ?_)
  replace hG := bnd_s eH22 hG
  have s_3 : Sa H H22 := by rw [eH22]; exact Sa.rf _
  refine ab_aload_n d_M_reads_45 rfl rfl rfl ?_
  refine ab_aload_n d_M_reads_46 rfl rfl rfl ?_
  obtain ⟨q23, hF⟩ := ck_s hG; clear hG
  rw [(s_3).1] at q23
  obtain ⟨a24, e25, hG⟩ := rf_s hF; clear hF
  refine hp_getR (f := 4) d_M_reads_47 (by rw [(s_3).1]; exact q23) (by decide) rfl (by decide) (k9 237 rfl rfl) rfl e25 ?_
  obtain ⟨q26, hF⟩ := ck_s hG; clear hG
  rw [(s_3).1] at q26
  refine hp_getIN (f := 9) d_M_reads_50 (by rw [(s_3).1]; exact q26) (by decide) rfl (by decide) (k8 171 rfl rfl) rfl ?_
  refine ab_topi (fun x27 ex27 => ?_)
  replace hF := bnd_s ex27 hF
  refine ab_if_ne (tgt := 60) d_M_reads_53 (by decide) (fun q28 => ?_) (fun q28 => ?_)
  · rw [if_neg q28] at hF
    refine ab_aload_n d_M_reads_60 rfl rfl rfl ?_
    obtain ⟨a29, e30, hG⟩ := rf_s hF; clear hF
    refine hp_getR (f := 4) d_M_reads_61 (by rw [(s_3).1]; exact q23) (by decide) rfl (by decide) (k9 237 rfl rfl) rfl e30 ?_
    obtain ⟨q31, hF⟩ := ck_s hG; clear hG
    rw [(s_3).1] at q31
    refine hp_getIN (f := 10) d_M_reads_64 (by rw [(s_3).1]; exact q31) (by decide) rfl (by decide) (k8 173 rfl rfl) rfl ?_
    refine ab_topi (fun x32 ex32 => ?_)
    replace hF := bnd_s ex32 hF
    exact kB_M_reads_67 hF
  · rw [if_pos q28] at hF
    refine ab_iconst (v := (-1)) d_M_reads_56 (by decide) ?_
    refine ab_goto (tgt := 67) d_M_reads_57 (by decide) ?_
    exact kB_M_reads_67 hF
def F_M_reads (N : Nat) (p0 : Nat) (H : Hp) : Option (Int32 × Hp) :=
    ck (H.sh[p0]? = some (12, 0)) <|
    rf (H.P p0 4) fun a2 =>
    rf (H.P p0 1) fun a4 =>
    bnd ((H.D p0 2)) fun x6 =>
    ck (H.sh[a2]? = some (14, 0)) <|
    bC (F_MText_reads N a2 a4 x6 H) fun v9 H10 =>
    bnd (H10.sD p0 2 (0 : Int32)) fun H11 =>
    rf (H11.P p0 4) fun a12 =>
    ck (H11.sh[a12]? = some (14, 0)) <|
    bnd ((H11.D a12 9)) fun x15 =>
    if x15 = (0 : Int32) then
    B_M_reads_42 N p0 p0 (-1) H11
    else
    rf (H11.P p0 4) fun a17 =>
    ck (H11.sh[a17]? = some (14, 0)) <|
    bnd ((H11.D a17 9)) fun x20 =>
    B_M_reads_42 N p0 p0 x20 H11
set_option maxRecDepth 20000 in
set_option maxHeartbeats 2000000 in
theorem m_M_reads {N : Nat} {p0 : Nat} {H : Hp} {r : Int32 × Hp} (hF : F_M_reads N p0 H = some r) : Sa H r.2 := by
  unfold F_M_reads at hF
  have hm := Sa.rf H
  obtain ⟨q61, hG⟩ := ck_s hF; clear hF
  obtain ⟨a62, e63, hF⟩ := rf_s hG; clear hG
  obtain ⟨a64, e65, hG⟩ := rf_s hF; clear hF
  obtain ⟨x66, -, hF⟩ := bnd_g hG; clear hG
  obtain ⟨q67, hG⟩ := ck_s hF; clear hF
  obtain ⟨v69, H70, z68, hF⟩ := bC_s hG; clear hG
  replace hm : Sa H H70 := hm.tr (m_MText_reads z68)
  obtain ⟨H71, eH71, hG⟩ := bnd_g hF; clear hF
  replace hm : Sa H H71 := by rw [eH71]; exact hm
  obtain ⟨a72, e73, hF⟩ := rf_s hG; clear hG
  obtain ⟨q74, hG⟩ := ck_s hF; clear hF
  obtain ⟨x75, -, hF⟩ := bnd_g hG; clear hG
  rcases ite_s hF with ⟨q_11, hG⟩ | ⟨q_11, hG⟩
  · clear hF
    exact hm.tr (mB_M_reads_42 hG)
  · clear hF
    obtain ⟨a77, e78, hF⟩ := rf_s hG; clear hG
    obtain ⟨q79, hG⟩ := ck_s hF; clear hF
    obtain ⟨x80, -, hF⟩ := bnd_g hG; clear hG
    exact hm.tr (mB_M_reads_42 hF)
set_option maxRecDepth 20000 in
set_option maxHeartbeats 2000000 in
theorem k_M_reads {N : Nat} {p0 : Nat} {H : Hp} {r : Int32 × Hp} (hF : F_M_reads N p0 H = some r) : ab_M y_M_reads { frames := 357, cells := 0, slots := 0, locals := 8078 } [.ref p0] (hpw H) (po (.returned (some (.int r.1))) r.2) := by
  unfold F_M_reads at hF
  refine ab_of2 (lv := [some (.ref p0)]) 0 rfl rfl (Nat.le_of_ble_eq_true rfl) ?_
  refine ab_aload_n d_M_reads_0 rfl rfl rfl ?_
  obtain ⟨q1, hG⟩ := ck_s hF; clear hF
  obtain ⟨a2, e3, hF⟩ := rf_s hG; clear hG
  refine hp_getR (f := 4) d_M_reads_1 q1 (by decide) rfl (by decide) (k9 237 rfl rfl) rfl e3 ?_
  refine ab_aload_n d_M_reads_4 rfl rfl rfl ?_
  obtain ⟨a4, e5, hG⟩ := rf_s hF; clear hF
  refine hp_getR (f := 1) d_M_reads_5 q1 (by decide) rfl (by decide) (k9 234 rfl rfl) rfl e5 ?_
  refine ab_aload_n d_M_reads_8 rfl rfl rfl ?_
  refine hp_getI (f := 2) d_M_reads_9 q1 (by decide) rfl (by decide) (k9 235 rfl rfl) rfl ?_
  refine ab_topi (fun x6 ex6 => ?_)
  replace hG := bnd_s ex6 hG
  obtain ⟨q7, hF⟩ := ck_s hG; clear hG
  obtain ⟨v9, H10, z8, hG⟩ := bC_s hF; clear hF
  refine hp_callV_v (H1 := H10) (As := [.ref a4, .int x6]) (rest := []) d_M_reads_12 (k_MText_reads z8) (ab_mkC s_MText_reads (Nat.le_of_ble_eq_true rfl) (Nat.le_of_ble_eq_true rfl) (Nat.le_refl 0) (Nat.le_refl 0)) (k10 104 rfl rfl) i_MText_reads v_MText_reads q7 (by decide) rfl rfl (Nat.le_of_ble_eq_true rfl) ?_
  have s_1 : Sa H H10 := (m_MText_reads z8)
  refine ab_aload_n d_M_reads_15 rfl rfl rfl ?_
  refine ab_iconst (v := 0) d_M_reads_16 (by decide) ?_
  refine hp_putI (v := 0) (f := 2) d_M_reads_17 (by rw [(s_1).1]; exact q1) (by decide) rfl (by decide) (k9 235 rfl rfl) rfl rfl (fun _ => rfl) (fun _ => rfl) rfl ?_
  refine hp_gen (fun H11 eH11 => ?_)
  replace hG := bnd_s eH11 hG
  have s_2 : Sa H H11 := by rw [eH11]; exact s_1
  refine ab_aload_n d_M_reads_20 rfl rfl rfl ?_
  refine ab_aload_n d_M_reads_21 rfl rfl rfl ?_
  obtain ⟨a12, e13, hF⟩ := rf_s hG; clear hG
  refine hp_getR (f := 4) d_M_reads_22 (by rw [(s_2).1]; exact q1) (by decide) rfl (by decide) (k9 237 rfl rfl) rfl e13 ?_
  obtain ⟨q14, hG⟩ := ck_s hF; clear hF
  rw [(s_2).1] at q14
  refine hp_getIN (f := 9) d_M_reads_25 (by rw [(s_2).1]; exact q14) (by decide) rfl (by decide) (k8 171 rfl rfl) rfl ?_
  refine ab_topi (fun x15 ex15 => ?_)
  replace hG := bnd_s ex15 hG
  refine ab_if_ne (tgt := 35) d_M_reads_28 (by decide) (fun q16 => ?_) (fun q16 => ?_)
  · rw [if_neg q16] at hG
    refine ab_aload_n d_M_reads_35 rfl rfl rfl ?_
    obtain ⟨a17, e18, hF⟩ := rf_s hG; clear hG
    refine hp_getR (f := 4) d_M_reads_36 (by rw [(s_2).1]; exact q1) (by decide) rfl (by decide) (k9 237 rfl rfl) rfl e18 ?_
    obtain ⟨q19, hG⟩ := ck_s hF; clear hF
    rw [(s_2).1] at q19
    refine hp_getIN (f := 9) d_M_reads_39 (by rw [(s_2).1]; exact q19) (by decide) rfl (by decide) (k8 171 rfl rfl) rfl ?_
    refine ab_topi (fun x20 ex20 => ?_)
    replace hG := bnd_s ex20 hG
    exact kB_M_reads_42 hG
  · rw [if_pos q16] at hG
    refine ab_iconst (v := (-1)) d_M_reads_31 (by decide) ?_
    refine ab_goto (tgt := 42) d_M_reads_32 (by decide) ?_
    exact kB_M_reads_42 hG
def y_M_takes : ab_Y := (⟨"WorldEngineModel", "takes", "()V"⟩, prog_14_method_8_code, 2, none, [])
theorem d_M_takes_0 : decode y_M_takes.2.1 0 = .ok (.aload_n 0, 1) := by decide +kernel
theorem d_M_takes_1 : decode y_M_takes.2.1 1 = .ok (.getfield 16, 3) := by decide +kernel
theorem d_M_takes_4 : decode y_M_takes.2.1 4 = .ok (.astore_n 1, 1) := by decide +kernel
theorem d_M_takes_5 : decode y_M_takes.2.1 5 = .ok (.aload_n 0, 1) := by decide +kernel
theorem d_M_takes_6 : decode y_M_takes.2.1 6 = .ok (.aload_n 0, 1) := by decide +kernel
theorem d_M_takes_7 : decode y_M_takes.2.1 7 = .ok (.getfield 20, 3) := by decide +kernel
theorem d_M_takes_10 : decode y_M_takes.2.1 10 = .ok (.putfield 16, 3) := by decide +kernel
theorem d_M_takes_13 : decode y_M_takes.2.1 13 = .ok (.aload_n 0, 1) := by decide +kernel
theorem d_M_takes_14 : decode y_M_takes.2.1 14 = .ok (.aload_n 1, 1) := by decide +kernel
theorem d_M_takes_15 : decode y_M_takes.2.1 15 = .ok (.putfield 20, 3) := by decide +kernel
theorem d_M_takes_18 : decode y_M_takes.2.1 18 = .ok (.aload_n 0, 1) := by decide +kernel
theorem d_M_takes_19 : decode y_M_takes.2.1 19 = .ok (.iconst 1, 1) := by decide +kernel
theorem d_M_takes_20 : decode y_M_takes.2.1 20 = .ok (.putfield 113, 3) := by decide +kernel
theorem d_M_takes_23 : decode y_M_takes.2.1 23 = .ok (.return_, 1) := by decide +kernel
theorem s_M_takes : ab_Stat y_M_takes 0 := ⟨(k11 144 rfl rfl), (k1 19 rfl rfl), ⟨by decide, by decide⟩, by decide +kernel⟩
theorem i_M_takes : Cond.instanceMethod y_M_takes.1 ∈ ab_T := (k11 143 rfl rfl)
theorem v_M_takes : Cond.selects "WorldEngineModel" y_M_takes.1 y_M_takes.1 ∈ ab_T := ab_s (List.mem_of_getElem? (i := 166) rfl) rfl
def F_M_takes (N : Nat) (p0 : Nat) (H : Hp) : Option (Unit × Hp) :=
    ck (H.sh[p0]? = some (12, 0)) <|
    rf (H.P p0 3) fun a2 =>
    rf (H.P p0 4) fun a4 =>
    bnd (H.sP p0 3 (.ref a4)) fun H6 =>
    bnd (H6.sP p0 4 (.ref a2)) fun H7 =>
    bnd (H7.sD p0 5 (1 : Int32)) fun H8 =>
    some ((), H8)
set_option maxRecDepth 20000 in
set_option maxHeartbeats 2000000 in
theorem m_M_takes {N : Nat} {p0 : Nat} {H : Hp} {r : Unit × Hp} (hF : F_M_takes N p0 H = some r) : Sa H r.2 := by
  unfold F_M_takes at hF
  have hm := Sa.rf H
  obtain ⟨q9, hG⟩ := ck_s hF; clear hF
  obtain ⟨a10, e11, hF⟩ := rf_s hG; clear hG
  obtain ⟨a12, e13, hG⟩ := rf_s hF; clear hF
  obtain ⟨H14, eH14, hF⟩ := bnd_g hG; clear hG
  replace hm : Sa H H14 := by rw [eH14]; exact hm
  obtain ⟨H15, eH15, hG⟩ := bnd_g hF; clear hF
  replace hm : Sa H H15 := by rw [eH15]; exact hm
  obtain ⟨H16, eH16, hF⟩ := bnd_g hG; clear hG
  replace hm : Sa H H16 := by rw [eH16]; exact hm
  have hr := Option.some.inj hF; subst hr
  exact hm
set_option maxRecDepth 20000 in
set_option maxHeartbeats 2000000 in
theorem k_M_takes {N : Nat} {p0 : Nat} {H : Hp} {r : Unit × Hp} (hF : F_M_takes N p0 H = some r) : ab_M y_M_takes { frames := 0, cells := 0, slots := 0, locals := 0 } [.ref p0] (hpw H) (po (.returned none) r.2) := by
  unfold F_M_takes at hF
  refine ab_of2 (lv := [some (.ref p0), none]) 1 rfl rfl (Nat.le_of_ble_eq_true rfl) ?_
  refine ab_aload_n d_M_takes_0 rfl rfl rfl ?_
  obtain ⟨q1, hG⟩ := ck_s hF; clear hF
  obtain ⟨a2, e3, hF⟩ := rf_s hG; clear hG
  refine hp_getR (f := 3) d_M_takes_1 q1 (by decide) rfl (by decide) (k9 236 rfl rfl) rfl e3 ?_
  refine ab_astore_n (lv' := [some (.ref p0), some (.ref a2)]) d_M_takes_4 rfl (by decide) rfl rfl ?_
  refine ab_aload_n d_M_takes_5 rfl rfl rfl ?_
  refine ab_aload_n d_M_takes_6 rfl rfl rfl ?_
  obtain ⟨a4, e5, hG⟩ := rf_s hF; clear hF
  refine hp_getR (f := 4) d_M_takes_7 q1 (by decide) rfl (by decide) (k9 237 rfl rfl) rfl e5 ?_
  refine hp_putP (v := .ref a4) (f := 3) d_M_takes_10 q1 (by decide) rfl (by decide) (k9 236 rfl rfl) rfl rfl (fun _ => rfl) (fun _ => rfl) rfl ?_
  refine hp_gen (fun H6 eH6 => ?_)
  replace hG := bnd_s eH6 hG
  have s_1 : Sa H H6 := by rw [eH6]; exact Sa.rf _
  refine ab_aload_n d_M_takes_13 rfl rfl rfl ?_
  refine ab_aload_n d_M_takes_14 rfl rfl rfl ?_
  refine hp_putP (v := .ref a2) (f := 4) d_M_takes_15 (by rw [(s_1).1]; exact q1) (by decide) rfl (by decide) (k9 237 rfl rfl) rfl rfl (fun _ => rfl) (fun _ => rfl) rfl ?_
  refine hp_gen (fun H7 eH7 => ?_)
  replace hG := bnd_s eH7 hG
  have s_2 : Sa H H7 := by rw [eH7]; exact s_1
  refine ab_aload_n d_M_takes_18 rfl rfl rfl ?_
  refine ab_iconst (v := 1) d_M_takes_19 (by decide) ?_
  refine hp_putI (v := 1) (f := 5) (ty := .boolean) d_M_takes_20 (by rw [(s_2).1]; exact q1) (by decide) rfl (by decide) (k9 238 rfl rfl) rfl rfl (fun _ => rfl) (fun _ => rfl) rfl ?_
  refine hp_gen (fun H8 eH8 => ?_)
  replace hG := bnd_s eH8 hG
  have s_3 : Sa H H8 := by rw [eH8]; exact s_2
  exact ab_vret d_M_takes_23 rfl (Nat.le_refl _) (Nat.le_refl _) (by have hr := Option.some.inj hG; subst hr; exact ⟨rfl, rfl⟩)
def y_MWorld_moves : ab_Y := (⟨"WorldEngineModel$World", "moves", "(LWorldEngineModel$World;II)V"⟩, prog_17_method_4_code, 5, none, [])
theorem d_MWorld_moves_0 : decode y_MWorld_moves.2.1 0 = .ok (.aload_n 0, 1) := by decide +kernel
theorem d_MWorld_moves_1 : decode y_MWorld_moves.2.1 1 = .ok (.getfield 25, 3) := by decide +kernel
theorem d_MWorld_moves_4 : decode y_MWorld_moves.2.1 4 = .ok (.iload_n 3, 1) := by decide +kernel
theorem d_MWorld_moves_5 : decode y_MWorld_moves.2.1 5 = .ok (.aload_n 1, 1) := by decide +kernel
theorem d_MWorld_moves_6 : decode y_MWorld_moves.2.1 6 = .ok (.getfield 25, 3) := by decide +kernel
theorem d_MWorld_moves_9 : decode y_MWorld_moves.2.1 9 = .ok (.iload_n 2, 1) := by decide +kernel
theorem d_MWorld_moves_10 : decode y_MWorld_moves.2.1 10 = .ok (.iaload, 1) := by decide +kernel
theorem d_MWorld_moves_11 : decode y_MWorld_moves.2.1 11 = .ok (.iastore, 1) := by decide +kernel
theorem d_MWorld_moves_12 : decode y_MWorld_moves.2.1 12 = .ok (.aload_n 0, 1) := by decide +kernel
theorem d_MWorld_moves_13 : decode y_MWorld_moves.2.1 13 = .ok (.getfield 28, 3) := by decide +kernel
theorem d_MWorld_moves_16 : decode y_MWorld_moves.2.1 16 = .ok (.iload_n 3, 1) := by decide +kernel
theorem d_MWorld_moves_17 : decode y_MWorld_moves.2.1 17 = .ok (.aload_n 1, 1) := by decide +kernel
theorem d_MWorld_moves_18 : decode y_MWorld_moves.2.1 18 = .ok (.getfield 28, 3) := by decide +kernel
theorem d_MWorld_moves_21 : decode y_MWorld_moves.2.1 21 = .ok (.iload_n 2, 1) := by decide +kernel
theorem d_MWorld_moves_22 : decode y_MWorld_moves.2.1 22 = .ok (.iaload, 1) := by decide +kernel
theorem d_MWorld_moves_23 : decode y_MWorld_moves.2.1 23 = .ok (.iastore, 1) := by decide +kernel
theorem d_MWorld_moves_24 : decode y_MWorld_moves.2.1 24 = .ok (.aload_n 0, 1) := by decide +kernel
theorem d_MWorld_moves_25 : decode y_MWorld_moves.2.1 25 = .ok (.getfield 31, 3) := by decide +kernel
theorem d_MWorld_moves_28 : decode y_MWorld_moves.2.1 28 = .ok (.iload_n 3, 1) := by decide +kernel
theorem d_MWorld_moves_29 : decode y_MWorld_moves.2.1 29 = .ok (.aload_n 1, 1) := by decide +kernel
theorem d_MWorld_moves_30 : decode y_MWorld_moves.2.1 30 = .ok (.getfield 31, 3) := by decide +kernel
theorem d_MWorld_moves_33 : decode y_MWorld_moves.2.1 33 = .ok (.iload_n 2, 1) := by decide +kernel
theorem d_MWorld_moves_34 : decode y_MWorld_moves.2.1 34 = .ok (.iaload, 1) := by decide +kernel
theorem d_MWorld_moves_35 : decode y_MWorld_moves.2.1 35 = .ok (.iastore, 1) := by decide +kernel
theorem d_MWorld_moves_36 : decode y_MWorld_moves.2.1 36 = .ok (.iconst 0, 1) := by decide +kernel
theorem d_MWorld_moves_37 : decode y_MWorld_moves.2.1 37 = .ok (.istore 4, 2) := by decide +kernel
theorem d_MWorld_moves_39 : decode y_MWorld_moves.2.1 39 = .ok (.iload 4, 2) := by decide +kernel
theorem d_MWorld_moves_41 : decode y_MWorld_moves.2.1 41 = .ok (.iconst 4, 1) := by decide +kernel
theorem d_MWorld_moves_42 : decode y_MWorld_moves.2.1 42 = .ok (.if_icmp .ge 31, 3) := by decide +kernel
theorem d_MWorld_moves_45 : decode y_MWorld_moves.2.1 45 = .ok (.aload_n 0, 1) := by decide +kernel
theorem d_MWorld_moves_46 : decode y_MWorld_moves.2.1 46 = .ok (.getfield 34, 3) := by decide +kernel
theorem d_MWorld_moves_49 : decode y_MWorld_moves.2.1 49 = .ok (.iconst 4, 1) := by decide +kernel
theorem d_MWorld_moves_50 : decode y_MWorld_moves.2.1 50 = .ok (.iload_n 3, 1) := by decide +kernel
theorem d_MWorld_moves_51 : decode y_MWorld_moves.2.1 51 = .ok (.imul, 1) := by decide +kernel
theorem d_MWorld_moves_52 : decode y_MWorld_moves.2.1 52 = .ok (.iload 4, 2) := by decide +kernel
theorem d_MWorld_moves_54 : decode y_MWorld_moves.2.1 54 = .ok (.iadd, 1) := by decide +kernel
theorem d_MWorld_moves_55 : decode y_MWorld_moves.2.1 55 = .ok (.aload_n 1, 1) := by decide +kernel
theorem d_MWorld_moves_56 : decode y_MWorld_moves.2.1 56 = .ok (.getfield 34, 3) := by decide +kernel
theorem d_MWorld_moves_59 : decode y_MWorld_moves.2.1 59 = .ok (.iconst 4, 1) := by decide +kernel
theorem d_MWorld_moves_60 : decode y_MWorld_moves.2.1 60 = .ok (.iload_n 2, 1) := by decide +kernel
theorem d_MWorld_moves_61 : decode y_MWorld_moves.2.1 61 = .ok (.imul, 1) := by decide +kernel
theorem d_MWorld_moves_62 : decode y_MWorld_moves.2.1 62 = .ok (.iload 4, 2) := by decide +kernel
theorem d_MWorld_moves_64 : decode y_MWorld_moves.2.1 64 = .ok (.iadd, 1) := by decide +kernel
theorem d_MWorld_moves_65 : decode y_MWorld_moves.2.1 65 = .ok (.iaload, 1) := by decide +kernel
theorem d_MWorld_moves_66 : decode y_MWorld_moves.2.1 66 = .ok (.iastore, 1) := by decide +kernel
theorem d_MWorld_moves_67 : decode y_MWorld_moves.2.1 67 = .ok (.iinc 4 1, 3) := by decide +kernel
theorem d_MWorld_moves_70 : decode y_MWorld_moves.2.1 70 = .ok (.goto (-31), 3) := by decide +kernel
theorem d_MWorld_moves_73 : decode y_MWorld_moves.2.1 73 = .ok (.return_, 1) := by decide +kernel
theorem s_MWorld_moves : ab_Stat y_MWorld_moves 3 := ⟨(k11 153 rfl rfl), (k1 21 rfl rfl), ⟨by decide, by decide⟩, by decide +kernel⟩
theorem i_MWorld_moves : Cond.instanceMethod y_MWorld_moves.1 ∈ ab_T := (k11 152 rfl rfl)
theorem v_MWorld_moves : Cond.selects "WorldEngineModel$World" y_MWorld_moves.1 y_MWorld_moves.1 ∈ ab_T := ab_s (List.mem_of_getElem? (i := 167) rfl) rfl
def B_MWorld_moves_39 (N : Nat) (p0 : Nat) (p1 : Nat) (p2 : Int32) (p3 : Int32) : Nat → Int32 → Hp → Option (Unit × Hp)
  | 0, _, _ => none
  | n + 1, l4, H =>
    if (4 : Int32) ≤ l4 then
    some ((), H)
    else
    ck (H.sh[p0]? = some (13, 0)) <|
    rf (H.P p0 12) fun a41 =>
    ck (H.sh[p1]? = some (13, 0)) <|
    rf (H.P p1 12) fun a44 =>
    ar H 100 a44 fun n46 =>
    ck (inb (((4 : Int32) * p2) + l4) n46) <|
    bnd ((H.D a44 ((((4 : Int32) * p2) + l4)).toNatClampNeg)) fun x49 =>
    ar H 100 a41 fun n50 =>
    ck (inb (((4 : Int32) * p3) + l4) n50) <|
    bnd (H.sD a41 ((((4 : Int32) * p3) + l4)).toNatClampNeg x49) fun H53 =>
    B_MWorld_moves_39 N p0 p1 p2 p3 n (l4 + 1) H53
termination_by structural n => n
set_option maxRecDepth 20000 in
set_option maxHeartbeats 2000000 in
theorem mB_MWorld_moves_39 {N : Nat} {p0 : Nat} {p1 : Nat} {p2 : Int32} {p3 : Int32} : ∀ (n : Nat) (l4 : Int32) (H : Hp) (r : Unit × Hp), B_MWorld_moves_39 N p0 p1 p2 p3 n l4 H = some r → Sa H r.2 := by
  intro n
  induction n with
  | zero => intro l4 H r hF; rw [B_MWorld_moves_39] at hF; cases hF
  | succ n ih =>
    intro l4 H r hF
    rw [B_MWorld_moves_39] at hF
    have hm := Sa.rf H
    rcases ite_s hF with ⟨q_5, hG⟩ | ⟨q_5, hG⟩
    · clear hF
      have hr := Option.some.inj hG; subst hr
      exact hm
    · clear hF
      obtain ⟨q55, hF⟩ := ck_s hG; clear hG
      obtain ⟨a56, e57, hG⟩ := rf_s hF; clear hF
      obtain ⟨q58, hF⟩ := ck_s hG; clear hG
      obtain ⟨a59, e60, hG⟩ := rf_s hF; clear hF
      obtain ⟨n61, q62, hF⟩ := ar_s hG; clear hG
      obtain ⟨q63, hG⟩ := ck_s hF; clear hF
      obtain ⟨x64, -, hF⟩ := bnd_g hG; clear hG
      obtain ⟨n65, q66, hG⟩ := ar_s hF; clear hF
      obtain ⟨q67, hF⟩ := ck_s hG; clear hG
      obtain ⟨H68, eH68, hG⟩ := bnd_g hF; clear hF
      replace hm : Sa H H68 := by rw [eH68]; exact hm
      exact hm.tr (ih (l4 + 1) H68 r hG)
set_option maxRecDepth 20000 in
set_option maxHeartbeats 2000000 in
theorem kB_MWorld_moves_39 {N : Nat} {p0 : Nat} {p1 : Nat} {p2 : Int32} {p3 : Int32} : ∀ (n : Nat) (l4 : Int32) (H : Hp) (r : Unit × Hp), B_MWorld_moves_39 N p0 p1 p2 p3 n l4 H = some r → ab_V y_MWorld_moves { frames := 0, cells := 0, slots := 0, locals := 0 } (po (.returned none) r.2) 0 0 0 0 39 [some (.ref p0), some (.ref p1), some (.int p2), some (.int p3), some (.int l4)] [] (hpw H) := by
  intro n
  induction n with
  | zero => intro l4 H r hF; rw [B_MWorld_moves_39] at hF; cases hF
  | succ n ih =>
    intro l4 H r hF
    rw [B_MWorld_moves_39] at hF
    refine ab_iload d_MWorld_moves_39 rfl ?_
    refine ab_iconst (v := 4) d_MWorld_moves_41 (by decide) ?_
    refine ab_icmp_ge (tgt := 73) d_MWorld_moves_42 (by decide) (fun q39 => ?_) (fun q39 => ?_)
    · rw [if_pos q39] at hF
      exact ab_vret d_MWorld_moves_73 rfl (Nat.le_refl _) (Nat.le_refl _) (by have hr := Option.some.inj hF; subst hr; exact ⟨rfl, rfl⟩)
    · rw [if_neg q39] at hF
      refine ab_aload_n d_MWorld_moves_45 rfl rfl rfl ?_
      obtain ⟨q40, hG⟩ := ck_s hF; clear hF
      obtain ⟨a41, e42, hF⟩ := rf_s hG; clear hG
      refine hp_getR (f := 12) d_MWorld_moves_46 q40 (by decide) rfl (by decide) (k9 123 rfl rfl) rfl e42 ?_
      refine ab_iconst (v := 4) d_MWorld_moves_49 (by decide) ?_
      refine ab_iload_n d_MWorld_moves_50 rfl rfl ?_
      refine ab_imul d_MWorld_moves_51 ?_
      refine ab_iload d_MWorld_moves_52 rfl ?_
      refine ab_iadd d_MWorld_moves_54 ?_
      refine ab_aload_n d_MWorld_moves_55 rfl rfl rfl ?_
      obtain ⟨q43, hG⟩ := ck_s hF; clear hF
      obtain ⟨a44, e45, hF⟩ := rf_s hG; clear hG
      refine hp_getR (f := 12) d_MWorld_moves_56 q43 (by decide) rfl (by decide) (k9 123 rfl rfl) rfl e45 ?_
      refine ab_iconst (v := 4) d_MWorld_moves_59 (by decide) ?_
      refine ab_iload_n d_MWorld_moves_60 rfl rfl ?_
      refine ab_imul d_MWorld_moves_61 ?_
      refine ab_iload d_MWorld_moves_62 rfl ?_
      refine ab_iadd d_MWorld_moves_64 ?_
      obtain ⟨n46, q47, hG⟩ := ar_s hF; clear hF
      obtain ⟨q48, hF⟩ := ck_s hG; clear hG
      refine hp_iald d_MWorld_moves_65 tI q47 q48 ?_
      refine ab_topi (fun x49 ex49 => ?_)
      replace hF := bnd_s ex49 hF
      obtain ⟨n50, q51, hG⟩ := ar_s hF; clear hF
      obtain ⟨q52, hF⟩ := ck_s hG; clear hG
      refine hp_iast d_MWorld_moves_66 tI q51 q52 ?_
      refine hp_gen (fun H53 eH53 => ?_)
      replace hF := bnd_s eH53 hF
      have s_4 : Sa H H53 := by rw [eH53]; exact Sa.rf _
      refine ab_iinc (v := l4 + 1) (lv' := [some (.ref p0), some (.ref p1), some (.int p2), some (.int p3), some (.int (l4 + 1))]) d_MWorld_moves_67 rfl rfl (by decide) rfl ?_
      refine ab_goto (tgt := 39) d_MWorld_moves_70 (by decide) ?_
      exact ih (l4 + 1) H53 r hF
def F_MWorld_moves (N : Nat) (p0 : Nat) (p1 : Nat) (p2 : Int32) (p3 : Int32) (H : Hp) : Option (Unit × Hp) :=
    ck (H.sh[p0]? = some (13, 0)) <|
    rf (H.P p0 9) fun a2 =>
    ck (H.sh[p1]? = some (13, 0)) <|
    rf (H.P p1 9) fun a5 =>
    ar H 100 a5 fun n7 =>
    ck (inb p2 n7) <|
    bnd ((H.D a5 (p2).toNatClampNeg)) fun x10 =>
    ar H 100 a2 fun n11 =>
    ck (inb p3 n11) <|
    bnd (H.sD a2 (p3).toNatClampNeg x10) fun H14 =>
    rf (H14.P p0 10) fun a15 =>
    rf (H14.P p1 10) fun a17 =>
    ar H14 100 a17 fun n19 =>
    ck (inb p2 n19) <|
    bnd ((H14.D a17 (p2).toNatClampNeg)) fun x22 =>
    ar H14 100 a15 fun n23 =>
    ck (inb p3 n23) <|
    bnd (H14.sD a15 (p3).toNatClampNeg x22) fun H26 =>
    rf (H26.P p0 11) fun a27 =>
    rf (H26.P p1 11) fun a29 =>
    ar H26 100 a29 fun n31 =>
    ck (inb p2 n31) <|
    bnd ((H26.D a29 (p2).toNatClampNeg)) fun x34 =>
    ar H26 100 a27 fun n35 =>
    ck (inb p3 n35) <|
    bnd (H26.sD a27 (p3).toNatClampNeg x34) fun H38 =>
    B_MWorld_moves_39 N p0 p1 p2 p3 N 0 H38
set_option maxRecDepth 20000 in
set_option maxHeartbeats 2000000 in
theorem m_MWorld_moves {N : Nat} {p0 : Nat} {p1 : Nat} {p2 : Int32} {p3 : Int32} {H : Hp} {r : Unit × Hp} (hF : F_MWorld_moves N p0 p1 p2 p3 H = some r) : Sa H r.2 := by
  unfold F_MWorld_moves at hF
  have hm := Sa.rf H
  obtain ⟨q69, hG⟩ := ck_s hF; clear hF
  obtain ⟨a70, e71, hF⟩ := rf_s hG; clear hG
  obtain ⟨q72, hG⟩ := ck_s hF; clear hF
  obtain ⟨a73, e74, hF⟩ := rf_s hG; clear hG
  obtain ⟨n75, q76, hG⟩ := ar_s hF; clear hF
  obtain ⟨q77, hF⟩ := ck_s hG; clear hG
  obtain ⟨x78, -, hG⟩ := bnd_g hF; clear hF
  obtain ⟨n79, q80, hF⟩ := ar_s hG; clear hG
  obtain ⟨q81, hG⟩ := ck_s hF; clear hF
  obtain ⟨H82, eH82, hF⟩ := bnd_g hG; clear hG
  replace hm : Sa H H82 := by rw [eH82]; exact hm
  obtain ⟨a83, e84, hG⟩ := rf_s hF; clear hF
  obtain ⟨a85, e86, hF⟩ := rf_s hG; clear hG
  obtain ⟨n87, q88, hG⟩ := ar_s hF; clear hF
  obtain ⟨q89, hF⟩ := ck_s hG; clear hG
  obtain ⟨x90, -, hG⟩ := bnd_g hF; clear hF
  obtain ⟨n91, q92, hF⟩ := ar_s hG; clear hG
  obtain ⟨q93, hG⟩ := ck_s hF; clear hF
  obtain ⟨H94, eH94, hF⟩ := bnd_g hG; clear hG
  replace hm : Sa H H94 := by rw [eH94]; exact hm
  obtain ⟨a95, e96, hG⟩ := rf_s hF; clear hF
  obtain ⟨a97, e98, hF⟩ := rf_s hG; clear hG
  obtain ⟨n99, q100, hG⟩ := ar_s hF; clear hF
  obtain ⟨q101, hF⟩ := ck_s hG; clear hG
  obtain ⟨x102, -, hG⟩ := bnd_g hF; clear hF
  obtain ⟨n103, q104, hF⟩ := ar_s hG; clear hG
  obtain ⟨q105, hG⟩ := ck_s hF; clear hF
  obtain ⟨H106, eH106, hF⟩ := bnd_g hG; clear hG
  replace hm : Sa H H106 := by rw [eH106]; exact hm
  exact hm.tr (mB_MWorld_moves_39 N 0 H106 r hF)
set_option maxRecDepth 20000 in
set_option maxHeartbeats 2000000 in
theorem k_MWorld_moves {N : Nat} {p0 : Nat} {p1 : Nat} {p2 : Int32} {p3 : Int32} {H : Hp} {r : Unit × Hp} (hF : F_MWorld_moves N p0 p1 p2 p3 H = some r) : ab_M y_MWorld_moves { frames := 0, cells := 0, slots := 0, locals := 0 } [.ref p0, .ref p1, .int p2, .int p3] (hpw H) (po (.returned none) r.2) := by
  unfold F_MWorld_moves at hF
  refine ab_of2 (lv := [some (.ref p0), some (.ref p1), some (.int p2), some (.int p3), none]) 1 rfl rfl (Nat.le_of_ble_eq_true rfl) ?_
  refine ab_aload_n d_MWorld_moves_0 rfl rfl rfl ?_
  obtain ⟨q1, hG⟩ := ck_s hF; clear hF
  obtain ⟨a2, e3, hF⟩ := rf_s hG; clear hG
  refine hp_getR (f := 9) d_MWorld_moves_1 q1 (by decide) rfl (by decide) (k9 114 rfl rfl) rfl e3 ?_
  refine ab_iload_n d_MWorld_moves_4 rfl rfl ?_
  refine ab_aload_n d_MWorld_moves_5 rfl rfl rfl ?_
  obtain ⟨q4, hG⟩ := ck_s hF; clear hF
  obtain ⟨a5, e6, hF⟩ := rf_s hG; clear hG
  refine hp_getR (f := 9) d_MWorld_moves_6 q4 (by decide) rfl (by decide) (k9 114 rfl rfl) rfl e6 ?_
  refine ab_iload_n d_MWorld_moves_9 rfl rfl ?_
  obtain ⟨n7, q8, hG⟩ := ar_s hF; clear hF
  obtain ⟨q9, hF⟩ := ck_s hG; clear hG
  refine hp_iald d_MWorld_moves_10 tI q8 q9 ?_
  refine ab_topi (fun x10 ex10 => ?_)
  replace hF := bnd_s ex10 hF
  obtain ⟨n11, q12, hG⟩ := ar_s hF; clear hF
  obtain ⟨q13, hF⟩ := ck_s hG; clear hG
  refine hp_iast d_MWorld_moves_11 tI q12 q13 ?_
  refine hp_gen (fun H14 eH14 => ?_)
  replace hF := bnd_s eH14 hF
  have s_1 : Sa H H14 := by rw [eH14]; exact Sa.rf _
  refine ab_aload_n d_MWorld_moves_12 rfl rfl rfl ?_
  obtain ⟨a15, e16, hG⟩ := rf_s hF; clear hF
  refine hp_getR (f := 10) d_MWorld_moves_13 (by rw [(s_1).1]; exact q1) (by decide) rfl (by decide) (k9 117 rfl rfl) rfl e16 ?_
  refine ab_iload_n d_MWorld_moves_16 rfl rfl ?_
  refine ab_aload_n d_MWorld_moves_17 rfl rfl rfl ?_
  obtain ⟨a17, e18, hF⟩ := rf_s hG; clear hG
  refine hp_getR (f := 10) d_MWorld_moves_18 (by rw [(s_1).1]; exact q4) (by decide) rfl (by decide) (k9 117 rfl rfl) rfl e18 ?_
  refine ab_iload_n d_MWorld_moves_21 rfl rfl ?_
  obtain ⟨n19, q20, hG⟩ := ar_s hF; clear hF
  rw [(s_1).1] at q20
  obtain ⟨q21, hF⟩ := ck_s hG; clear hG
  refine hp_iald d_MWorld_moves_22 tI (by rw [(s_1).1]; exact q20) q21 ?_
  refine ab_topi (fun x22 ex22 => ?_)
  replace hF := bnd_s ex22 hF
  obtain ⟨n23, q24, hG⟩ := ar_s hF; clear hF
  rw [(s_1).1] at q24
  obtain ⟨q25, hF⟩ := ck_s hG; clear hG
  refine hp_iast d_MWorld_moves_23 tI (by rw [(s_1).1]; exact q24) q25 ?_
  refine hp_gen (fun H26 eH26 => ?_)
  replace hF := bnd_s eH26 hF
  have s_2 : Sa H H26 := by rw [eH26]; exact s_1
  refine ab_aload_n d_MWorld_moves_24 rfl rfl rfl ?_
  obtain ⟨a27, e28, hG⟩ := rf_s hF; clear hF
  refine hp_getR (f := 11) d_MWorld_moves_25 (by rw [(s_2).1]; exact q1) (by decide) rfl (by decide) (k9 120 rfl rfl) rfl e28 ?_
  refine ab_iload_n d_MWorld_moves_28 rfl rfl ?_
  refine ab_aload_n d_MWorld_moves_29 rfl rfl rfl ?_
  obtain ⟨a29, e30, hF⟩ := rf_s hG; clear hG
  refine hp_getR (f := 11) d_MWorld_moves_30 (by rw [(s_2).1]; exact q4) (by decide) rfl (by decide) (k9 120 rfl rfl) rfl e30 ?_
  refine ab_iload_n d_MWorld_moves_33 rfl rfl ?_
  obtain ⟨n31, q32, hG⟩ := ar_s hF; clear hF
  rw [(s_2).1] at q32
  obtain ⟨q33, hF⟩ := ck_s hG; clear hG
  refine hp_iald d_MWorld_moves_34 tI (by rw [(s_2).1]; exact q32) q33 ?_
  refine ab_topi (fun x34 ex34 => ?_)
  replace hF := bnd_s ex34 hF
  obtain ⟨n35, q36, hG⟩ := ar_s hF; clear hF
  rw [(s_2).1] at q36
  obtain ⟨q37, hF⟩ := ck_s hG; clear hG
  refine hp_iast d_MWorld_moves_35 tI (by rw [(s_2).1]; exact q36) q37 ?_
  refine hp_gen (fun H38 eH38 => ?_)
  replace hF := bnd_s eH38 hF
  have s_3 : Sa H H38 := by rw [eH38]; exact s_2
  refine ab_iconst (v := 0) d_MWorld_moves_36 (by decide) ?_
  refine ab_istore (lv' := [some (.ref p0), some (.ref p1), some (.int p2), some (.int p3), some (.int 0)]) d_MWorld_moves_37 (by decide) rfl ?_
  exact kB_MWorld_moves_39 N 0 H38 r hF
def y_MWorld_copies : ab_Y := (⟨"WorldEngineModel$World", "copies", "(LWorldEngineModel$World;)V"⟩, prog_17_method_3_code, 3, none, [])
theorem d_MWorld_copies_0 : decode y_MWorld_copies.2.1 0 = .ok (.aload_n 0, 1) := by decide +kernel
theorem d_MWorld_copies_1 : decode y_MWorld_copies.2.1 1 = .ok (.aload_n 1, 1) := by decide +kernel
theorem d_MWorld_copies_2 : decode y_MWorld_copies.2.1 2 = .ok (.getfield 43, 3) := by decide +kernel
theorem d_MWorld_copies_5 : decode y_MWorld_copies.2.1 5 = .ok (.putfield 43, 3) := by decide +kernel
theorem d_MWorld_copies_8 : decode y_MWorld_copies.2.1 8 = .ok (.aload_n 0, 1) := by decide +kernel
theorem d_MWorld_copies_9 : decode y_MWorld_copies.2.1 9 = .ok (.aload_n 1, 1) := by decide +kernel
theorem d_MWorld_copies_10 : decode y_MWorld_copies.2.1 10 = .ok (.getfield 47, 3) := by decide +kernel
theorem d_MWorld_copies_13 : decode y_MWorld_copies.2.1 13 = .ok (.putfield 47, 3) := by decide +kernel
theorem d_MWorld_copies_16 : decode y_MWorld_copies.2.1 16 = .ok (.aload_n 0, 1) := by decide +kernel
theorem d_MWorld_copies_17 : decode y_MWorld_copies.2.1 17 = .ok (.aload_n 1, 1) := by decide +kernel
theorem d_MWorld_copies_18 : decode y_MWorld_copies.2.1 18 = .ok (.getfield 50, 3) := by decide +kernel
theorem d_MWorld_copies_21 : decode y_MWorld_copies.2.1 21 = .ok (.putfield 50, 3) := by decide +kernel
theorem d_MWorld_copies_24 : decode y_MWorld_copies.2.1 24 = .ok (.aload_n 0, 1) := by decide +kernel
theorem d_MWorld_copies_25 : decode y_MWorld_copies.2.1 25 = .ok (.aload_n 1, 1) := by decide +kernel
theorem d_MWorld_copies_26 : decode y_MWorld_copies.2.1 26 = .ok (.getfield 53, 3) := by decide +kernel
theorem d_MWorld_copies_29 : decode y_MWorld_copies.2.1 29 = .ok (.putfield 53, 3) := by decide +kernel
theorem d_MWorld_copies_32 : decode y_MWorld_copies.2.1 32 = .ok (.aload_n 0, 1) := by decide +kernel
theorem d_MWorld_copies_33 : decode y_MWorld_copies.2.1 33 = .ok (.aload_n 1, 1) := by decide +kernel
theorem d_MWorld_copies_34 : decode y_MWorld_copies.2.1 34 = .ok (.getfield 56, 3) := by decide +kernel
theorem d_MWorld_copies_37 : decode y_MWorld_copies.2.1 37 = .ok (.putfield 56, 3) := by decide +kernel
theorem d_MWorld_copies_40 : decode y_MWorld_copies.2.1 40 = .ok (.aload_n 0, 1) := by decide +kernel
theorem d_MWorld_copies_41 : decode y_MWorld_copies.2.1 41 = .ok (.aload_n 1, 1) := by decide +kernel
theorem d_MWorld_copies_42 : decode y_MWorld_copies.2.1 42 = .ok (.getfield 59, 3) := by decide +kernel
theorem d_MWorld_copies_45 : decode y_MWorld_copies.2.1 45 = .ok (.putfield 59, 3) := by decide +kernel
theorem d_MWorld_copies_48 : decode y_MWorld_copies.2.1 48 = .ok (.aload_n 0, 1) := by decide +kernel
theorem d_MWorld_copies_49 : decode y_MWorld_copies.2.1 49 = .ok (.aload_n 1, 1) := by decide +kernel
theorem d_MWorld_copies_50 : decode y_MWorld_copies.2.1 50 = .ok (.getfield 65, 3) := by decide +kernel
theorem d_MWorld_copies_53 : decode y_MWorld_copies.2.1 53 = .ok (.putfield 65, 3) := by decide +kernel
theorem d_MWorld_copies_56 : decode y_MWorld_copies.2.1 56 = .ok (.aload_n 0, 1) := by decide +kernel
theorem d_MWorld_copies_57 : decode y_MWorld_copies.2.1 57 = .ok (.aload_n 1, 1) := by decide +kernel
theorem d_MWorld_copies_58 : decode y_MWorld_copies.2.1 58 = .ok (.getfield 68, 3) := by decide +kernel
theorem d_MWorld_copies_61 : decode y_MWorld_copies.2.1 61 = .ok (.putfield 68, 3) := by decide +kernel
theorem d_MWorld_copies_64 : decode y_MWorld_copies.2.1 64 = .ok (.aload_n 0, 1) := by decide +kernel
theorem d_MWorld_copies_65 : decode y_MWorld_copies.2.1 65 = .ok (.aload_n 1, 1) := by decide +kernel
theorem d_MWorld_copies_66 : decode y_MWorld_copies.2.1 66 = .ok (.getfield 62, 3) := by decide +kernel
theorem d_MWorld_copies_69 : decode y_MWorld_copies.2.1 69 = .ok (.putfield 62, 3) := by decide +kernel
theorem d_MWorld_copies_72 : decode y_MWorld_copies.2.1 72 = .ok (.iconst 0, 1) := by decide +kernel
theorem d_MWorld_copies_73 : decode y_MWorld_copies.2.1 73 = .ok (.istore_n 2, 1) := by decide +kernel
theorem d_MWorld_copies_74 : decode y_MWorld_copies.2.1 74 = .ok (.iload_n 2, 1) := by decide +kernel
theorem d_MWorld_copies_75 : decode y_MWorld_copies.2.1 75 = .ok (.bipush 32, 2) := by decide +kernel
theorem d_MWorld_copies_77 : decode y_MWorld_copies.2.1 77 = .ok (.if_icmp .ge 21, 3) := by decide +kernel
theorem d_MWorld_copies_80 : decode y_MWorld_copies.2.1 80 = .ok (.aload_n 0, 1) := by decide +kernel
theorem d_MWorld_copies_81 : decode y_MWorld_copies.2.1 81 = .ok (.getfield 37, 3) := by decide +kernel
theorem d_MWorld_copies_84 : decode y_MWorld_copies.2.1 84 = .ok (.iload_n 2, 1) := by decide +kernel
theorem d_MWorld_copies_85 : decode y_MWorld_copies.2.1 85 = .ok (.aload_n 1, 1) := by decide +kernel
theorem d_MWorld_copies_86 : decode y_MWorld_copies.2.1 86 = .ok (.getfield 37, 3) := by decide +kernel
theorem d_MWorld_copies_89 : decode y_MWorld_copies.2.1 89 = .ok (.iload_n 2, 1) := by decide +kernel
theorem d_MWorld_copies_90 : decode y_MWorld_copies.2.1 90 = .ok (.iaload, 1) := by decide +kernel
theorem d_MWorld_copies_91 : decode y_MWorld_copies.2.1 91 = .ok (.iastore, 1) := by decide +kernel
theorem d_MWorld_copies_92 : decode y_MWorld_copies.2.1 92 = .ok (.iinc 2 1, 3) := by decide +kernel
theorem d_MWorld_copies_95 : decode y_MWorld_copies.2.1 95 = .ok (.goto (-21), 3) := by decide +kernel
theorem d_MWorld_copies_98 : decode y_MWorld_copies.2.1 98 = .ok (.iconst 0, 1) := by decide +kernel
theorem d_MWorld_copies_99 : decode y_MWorld_copies.2.1 99 = .ok (.istore_n 2, 1) := by decide +kernel
theorem d_MWorld_copies_100 : decode y_MWorld_copies.2.1 100 = .ok (.iload_n 2, 1) := by decide +kernel
theorem d_MWorld_copies_101 : decode y_MWorld_copies.2.1 101 = .ok (.sipush 256, 3) := by decide +kernel
theorem d_MWorld_copies_104 : decode y_MWorld_copies.2.1 104 = .ok (.if_icmp .ge 45, 3) := by decide +kernel
theorem d_MWorld_copies_107 : decode y_MWorld_copies.2.1 107 = .ok (.aload_n 0, 1) := by decide +kernel
theorem d_MWorld_copies_108 : decode y_MWorld_copies.2.1 108 = .ok (.getfield 9, 3) := by decide +kernel
theorem d_MWorld_copies_111 : decode y_MWorld_copies.2.1 111 = .ok (.iload_n 2, 1) := by decide +kernel
theorem d_MWorld_copies_112 : decode y_MWorld_copies.2.1 112 = .ok (.aload_n 1, 1) := by decide +kernel
theorem d_MWorld_copies_113 : decode y_MWorld_copies.2.1 113 = .ok (.getfield 9, 3) := by decide +kernel
theorem d_MWorld_copies_116 : decode y_MWorld_copies.2.1 116 = .ok (.iload_n 2, 1) := by decide +kernel
theorem d_MWorld_copies_117 : decode y_MWorld_copies.2.1 117 = .ok (.iaload, 1) := by decide +kernel
theorem d_MWorld_copies_118 : decode y_MWorld_copies.2.1 118 = .ok (.iastore, 1) := by decide +kernel
theorem d_MWorld_copies_119 : decode y_MWorld_copies.2.1 119 = .ok (.aload_n 0, 1) := by decide +kernel
theorem d_MWorld_copies_120 : decode y_MWorld_copies.2.1 120 = .ok (.getfield 15, 3) := by decide +kernel
theorem d_MWorld_copies_123 : decode y_MWorld_copies.2.1 123 = .ok (.iload_n 2, 1) := by decide +kernel
theorem d_MWorld_copies_124 : decode y_MWorld_copies.2.1 124 = .ok (.aload_n 1, 1) := by decide +kernel
theorem d_MWorld_copies_125 : decode y_MWorld_copies.2.1 125 = .ok (.getfield 15, 3) := by decide +kernel
theorem d_MWorld_copies_128 : decode y_MWorld_copies.2.1 128 = .ok (.iload_n 2, 1) := by decide +kernel
theorem d_MWorld_copies_129 : decode y_MWorld_copies.2.1 129 = .ok (.baload, 1) := by decide +kernel
theorem d_MWorld_copies_130 : decode y_MWorld_copies.2.1 130 = .ok (.bastore, 1) := by decide +kernel
theorem d_MWorld_copies_131 : decode y_MWorld_copies.2.1 131 = .ok (.aload_n 0, 1) := by decide +kernel
theorem d_MWorld_copies_132 : decode y_MWorld_copies.2.1 132 = .ok (.getfield 19, 3) := by decide +kernel
theorem d_MWorld_copies_135 : decode y_MWorld_copies.2.1 135 = .ok (.iload_n 2, 1) := by decide +kernel
theorem d_MWorld_copies_136 : decode y_MWorld_copies.2.1 136 = .ok (.aload_n 1, 1) := by decide +kernel
theorem d_MWorld_copies_137 : decode y_MWorld_copies.2.1 137 = .ok (.getfield 19, 3) := by decide +kernel
theorem d_MWorld_copies_140 : decode y_MWorld_copies.2.1 140 = .ok (.iload_n 2, 1) := by decide +kernel
theorem d_MWorld_copies_141 : decode y_MWorld_copies.2.1 141 = .ok (.iaload, 1) := by decide +kernel
theorem d_MWorld_copies_142 : decode y_MWorld_copies.2.1 142 = .ok (.iastore, 1) := by decide +kernel
theorem d_MWorld_copies_143 : decode y_MWorld_copies.2.1 143 = .ok (.iinc 2 1, 3) := by decide +kernel
theorem d_MWorld_copies_146 : decode y_MWorld_copies.2.1 146 = .ok (.goto (-46), 3) := by decide +kernel
theorem d_MWorld_copies_149 : decode y_MWorld_copies.2.1 149 = .ok (.iconst 0, 1) := by decide +kernel
theorem d_MWorld_copies_150 : decode y_MWorld_copies.2.1 150 = .ok (.istore_n 2, 1) := by decide +kernel
theorem d_MWorld_copies_151 : decode y_MWorld_copies.2.1 151 = .ok (.iload_n 2, 1) := by decide +kernel
theorem d_MWorld_copies_152 : decode y_MWorld_copies.2.1 152 = .ok (.sipush 12288, 3) := by decide +kernel
theorem d_MWorld_copies_155 : decode y_MWorld_copies.2.1 155 = .ok (.if_icmp .ge 21, 3) := by decide +kernel
theorem d_MWorld_copies_158 : decode y_MWorld_copies.2.1 158 = .ok (.aload_n 0, 1) := by decide +kernel
theorem d_MWorld_copies_159 : decode y_MWorld_copies.2.1 159 = .ok (.getfield 22, 3) := by decide +kernel
theorem d_MWorld_copies_162 : decode y_MWorld_copies.2.1 162 = .ok (.iload_n 2, 1) := by decide +kernel
theorem d_MWorld_copies_163 : decode y_MWorld_copies.2.1 163 = .ok (.aload_n 1, 1) := by decide +kernel
theorem d_MWorld_copies_164 : decode y_MWorld_copies.2.1 164 = .ok (.getfield 22, 3) := by decide +kernel
theorem d_MWorld_copies_167 : decode y_MWorld_copies.2.1 167 = .ok (.iload_n 2, 1) := by decide +kernel
theorem d_MWorld_copies_168 : decode y_MWorld_copies.2.1 168 = .ok (.iaload, 1) := by decide +kernel
theorem d_MWorld_copies_169 : decode y_MWorld_copies.2.1 169 = .ok (.iastore, 1) := by decide +kernel
theorem d_MWorld_copies_170 : decode y_MWorld_copies.2.1 170 = .ok (.iinc 2 1, 3) := by decide +kernel
theorem d_MWorld_copies_173 : decode y_MWorld_copies.2.1 173 = .ok (.goto (-22), 3) := by decide +kernel
theorem d_MWorld_copies_176 : decode y_MWorld_copies.2.1 176 = .ok (.iconst 0, 1) := by decide +kernel
theorem d_MWorld_copies_177 : decode y_MWorld_copies.2.1 177 = .ok (.istore_n 2, 1) := by decide +kernel
theorem d_MWorld_copies_178 : decode y_MWorld_copies.2.1 178 = .ok (.iload_n 2, 1) := by decide +kernel
theorem d_MWorld_copies_179 : decode y_MWorld_copies.2.1 179 = .ok (.aload_n 0, 1) := by decide +kernel
theorem d_MWorld_copies_180 : decode y_MWorld_copies.2.1 180 = .ok (.getfield 56, 3) := by decide +kernel
theorem d_MWorld_copies_183 : decode y_MWorld_copies.2.1 183 = .ok (.if_icmp .ge 16, 3) := by decide +kernel
theorem d_MWorld_copies_186 : decode y_MWorld_copies.2.1 186 = .ok (.aload_n 0, 1) := by decide +kernel
theorem d_MWorld_copies_187 : decode y_MWorld_copies.2.1 187 = .ok (.aload_n 1, 1) := by decide +kernel
theorem d_MWorld_copies_188 : decode y_MWorld_copies.2.1 188 = .ok (.iload_n 2, 1) := by decide +kernel
theorem d_MWorld_copies_189 : decode y_MWorld_copies.2.1 189 = .ok (.iload_n 2, 1) := by decide +kernel
theorem d_MWorld_copies_190 : decode y_MWorld_copies.2.1 190 = .ok (.invokevirtual 71, 3) := by decide +kernel
theorem d_MWorld_copies_193 : decode y_MWorld_copies.2.1 193 = .ok (.iinc 2 1, 3) := by decide +kernel
theorem d_MWorld_copies_196 : decode y_MWorld_copies.2.1 196 = .ok (.goto (-18), 3) := by decide +kernel
theorem d_MWorld_copies_199 : decode y_MWorld_copies.2.1 199 = .ok (.return_, 1) := by decide +kernel
theorem s_MWorld_copies : ab_Stat y_MWorld_copies 1 := ⟨(k11 149 rfl rfl), (k1 21 rfl rfl), ⟨by decide, by decide⟩, by decide +kernel⟩
theorem i_MWorld_copies : Cond.instanceMethod y_MWorld_copies.1 ∈ ab_T := (k11 147 rfl rfl)
theorem v_MWorld_copies : Cond.selects "WorldEngineModel$World" y_MWorld_copies.1 y_MWorld_copies.1 ∈ ab_T := (k11 148 rfl rfl)
def B_MWorld_copies_178 (N : Nat) (p0 : Nat) (p1 : Nat) : Nat → Int32 → Hp → Option (Unit × Hp)
  | 0, _, _ => none
  | n + 1, l2, H =>
    ck (H.sh[p0]? = some (13, 0)) <|
    bnd ((H.D p0 8)) fun x25 =>
    if x25 ≤ l2 then
    some ((), H)
    else
    bC (F_MWorld_moves N p0 p1 l2 l2 H) fun v28 H29 =>
    B_MWorld_copies_178 N p0 p1 n (l2 + 1) H29
termination_by structural n => n
set_option maxRecDepth 20000 in
set_option maxHeartbeats 2000000 in
theorem mB_MWorld_copies_178 {N : Nat} {p0 : Nat} {p1 : Nat} : ∀ (n : Nat) (l2 : Int32) (H : Hp) (r : Unit × Hp), B_MWorld_copies_178 N p0 p1 n l2 H = some r → Sa H r.2 := by
  intro n
  induction n with
  | zero => intro l2 H r hF; rw [B_MWorld_copies_178] at hF; cases hF
  | succ n ih =>
    intro l2 H r hF
    rw [B_MWorld_copies_178] at hF
    have hm := Sa.rf H
    obtain ⟨q30, hG⟩ := ck_s hF; clear hF
    obtain ⟨x31, -, hF⟩ := bnd_g hG; clear hG
    rcases ite_s hF with ⟨q_11, hG⟩ | ⟨q_11, hG⟩
    · clear hF
      have hr := Option.some.inj hG; subst hr
      exact hm
    · clear hF
      obtain ⟨v34, H35, z33, hF⟩ := bC_s hG; clear hG
      replace hm : Sa H H35 := hm.tr (m_MWorld_moves z33)
      exact hm.tr (ih (l2 + 1) H35 r hF)
set_option maxRecDepth 20000 in
set_option maxHeartbeats 2000000 in
theorem kB_MWorld_copies_178 {N : Nat} {p0 : Nat} {p1 : Nat} : ∀ (n : Nat) (l2 : Int32) (H : Hp) (r : Unit × Hp), B_MWorld_copies_178 N p0 p1 n l2 H = some r → ab_V y_MWorld_copies { frames := 1, cells := 0, slots := 0, locals := 24 } (po (.returned none) r.2) 0 0 0 0 178 [some (.ref p0), some (.ref p1), some (.int l2)] [] (hpw H) := by
  intro n
  induction n with
  | zero => intro l2 H r hF; rw [B_MWorld_copies_178] at hF; cases hF
  | succ n ih =>
    intro l2 H r hF
    rw [B_MWorld_copies_178] at hF
    refine ab_iload_n d_MWorld_copies_178 rfl rfl ?_
    refine ab_aload_n d_MWorld_copies_179 rfl rfl rfl ?_
    obtain ⟨q24, hG⟩ := ck_s hF; clear hF
    refine hp_getI (f := 8) d_MWorld_copies_180 q24 (by decide) rfl (by decide) (k9 111 rfl rfl) rfl ?_
    refine ab_topi (fun x25 ex25 => ?_)
    replace hG := bnd_s ex25 hG
    refine ab_icmp_ge (tgt := 199) d_MWorld_copies_183 (by decide) (fun q26 => ?_) (fun q26 => ?_)
    · rw [if_pos q26] at hG
      exact ab_vret d_MWorld_copies_199 rfl (Nat.le_refl _) (Nat.le_refl _) (by have hr := Option.some.inj hG; subst hr; exact ⟨rfl, rfl⟩)
    · rw [if_neg q26] at hG
      refine ab_aload_n d_MWorld_copies_186 rfl rfl rfl ?_
      refine ab_aload_n d_MWorld_copies_187 rfl rfl rfl ?_
      refine ab_iload_n d_MWorld_copies_188 rfl rfl ?_
      refine ab_iload_n d_MWorld_copies_189 rfl rfl ?_
      obtain ⟨v28, H29, z27, hF⟩ := bC_s hG; clear hG
      refine hp_callV_v (H1 := H29) (As := [.ref p1, .int l2, .int l2]) (rest := []) d_MWorld_copies_190 (k_MWorld_moves z27) (ab_mkC s_MWorld_moves (Nat.le_of_ble_eq_true rfl) (Nat.le_of_ble_eq_true rfl) (Nat.le_refl 0) (Nat.le_refl 0)) (k11 150 rfl rfl) i_MWorld_moves v_MWorld_moves q24 (by decide) rfl rfl (Nat.le_of_ble_eq_true rfl) ?_
      have s_10 : Sa H H29 := (m_MWorld_moves z27)
      refine ab_iinc (v := l2 + 1) (lv' := [some (.ref p0), some (.ref p1), some (.int (l2 + 1))]) d_MWorld_copies_193 rfl rfl (by decide) rfl ?_
      refine ab_goto (tgt := 178) d_MWorld_copies_196 (by decide) ?_
      exact ih (l2 + 1) H29 r hF
def B_MWorld_copies_151 (N : Nat) (p0 : Nat) (p1 : Nat) : Nat → Int32 → Hp → Option (Unit × Hp)
  | 0, _, _ => none
  | n + 1, l2, H =>
    if (12288 : Int32) ≤ l2 then
    B_MWorld_copies_178 N p0 p1 N 0 H
    else
    ck (H.sh[p0]? = some (13, 0)) <|
    rf (H.P p0 7) fun a37 =>
    ck (H.sh[p1]? = some (13, 0)) <|
    rf (H.P p1 7) fun a40 =>
    ar H 100 a40 fun n42 =>
    ck (inb l2 n42) <|
    bnd ((H.D a40 (l2).toNatClampNeg)) fun x45 =>
    ar H 100 a37 fun n46 =>
    ck (inb l2 n46) <|
    bnd (H.sD a37 (l2).toNatClampNeg x45) fun H49 =>
    B_MWorld_copies_151 N p0 p1 n (l2 + 1) H49
termination_by structural n => n
set_option maxRecDepth 20000 in
set_option maxHeartbeats 2000000 in
theorem mB_MWorld_copies_151 {N : Nat} {p0 : Nat} {p1 : Nat} : ∀ (n : Nat) (l2 : Int32) (H : Hp) (r : Unit × Hp), B_MWorld_copies_151 N p0 p1 n l2 H = some r → Sa H r.2 := by
  intro n
  induction n with
  | zero => intro l2 H r hF; rw [B_MWorld_copies_151] at hF; cases hF
  | succ n ih =>
    intro l2 H r hF
    rw [B_MWorld_copies_151] at hF
    have hm := Sa.rf H
    rcases ite_s hF with ⟨q_14, hG⟩ | ⟨q_14, hG⟩
    · clear hF
      exact hm.tr (mB_MWorld_copies_178 N 0 H r hG)
    · clear hF
      obtain ⟨q51, hF⟩ := ck_s hG; clear hG
      obtain ⟨a52, e53, hG⟩ := rf_s hF; clear hF
      obtain ⟨q54, hF⟩ := ck_s hG; clear hG
      obtain ⟨a55, e56, hG⟩ := rf_s hF; clear hF
      obtain ⟨n57, q58, hF⟩ := ar_s hG; clear hG
      obtain ⟨q59, hG⟩ := ck_s hF; clear hF
      obtain ⟨x60, -, hF⟩ := bnd_g hG; clear hG
      obtain ⟨n61, q62, hG⟩ := ar_s hF; clear hF
      obtain ⟨q63, hF⟩ := ck_s hG; clear hG
      obtain ⟨H64, eH64, hG⟩ := bnd_g hF; clear hF
      replace hm : Sa H H64 := by rw [eH64]; exact hm
      exact hm.tr (ih (l2 + 1) H64 r hG)
set_option maxRecDepth 20000 in
set_option maxHeartbeats 2000000 in
theorem kB_MWorld_copies_151 {N : Nat} {p0 : Nat} {p1 : Nat} : ∀ (n : Nat) (l2 : Int32) (H : Hp) (r : Unit × Hp), B_MWorld_copies_151 N p0 p1 n l2 H = some r → ab_V y_MWorld_copies { frames := 1, cells := 0, slots := 0, locals := 24 } (po (.returned none) r.2) 0 0 0 0 151 [some (.ref p0), some (.ref p1), some (.int l2)] [] (hpw H) := by
  intro n
  induction n with
  | zero => intro l2 H r hF; rw [B_MWorld_copies_151] at hF; cases hF
  | succ n ih =>
    intro l2 H r hF
    rw [B_MWorld_copies_151] at hF
    refine ab_iload_n d_MWorld_copies_151 rfl rfl ?_
    refine ab_sipush (v := 12288) d_MWorld_copies_152 (by decide) ?_
    refine ab_icmp_ge (tgt := 176) d_MWorld_copies_155 (by decide) (fun q23 => ?_) (fun q23 => ?_)
    · rw [if_pos q23] at hF
      refine ab_iconst (v := 0) d_MWorld_copies_176 (by decide) ?_
      refine ab_istore_n (lv' := [some (.ref p0), some (.ref p1), some (.int 0)]) d_MWorld_copies_177 rfl (by decide) rfl ?_
      exact kB_MWorld_copies_178 N 0 H r hF
    · rw [if_neg q23] at hF
      refine ab_aload_n d_MWorld_copies_158 rfl rfl rfl ?_
      obtain ⟨q36, hG⟩ := ck_s hF; clear hF
      obtain ⟨a37, e38, hF⟩ := rf_s hG; clear hG
      refine hp_getR (f := 7) d_MWorld_copies_159 q36 (by decide) rfl (by decide) (k9 108 rfl rfl) rfl e38 ?_
      refine ab_iload_n d_MWorld_copies_162 rfl rfl ?_
      refine ab_aload_n d_MWorld_copies_163 rfl rfl rfl ?_
      obtain ⟨q39, hG⟩ := ck_s hF; clear hF
      obtain ⟨a40, e41, hF⟩ := rf_s hG; clear hG
      refine hp_getR (f := 7) d_MWorld_copies_164 q39 (by decide) rfl (by decide) (k9 108 rfl rfl) rfl e41 ?_
      refine ab_iload_n d_MWorld_copies_167 rfl rfl ?_
      obtain ⟨n42, q43, hG⟩ := ar_s hF; clear hF
      obtain ⟨q44, hF⟩ := ck_s hG; clear hG
      refine hp_iald d_MWorld_copies_168 tI q43 q44 ?_
      refine ab_topi (fun x45 ex45 => ?_)
      replace hF := bnd_s ex45 hF
      obtain ⟨n46, q47, hG⟩ := ar_s hF; clear hF
      obtain ⟨q48, hF⟩ := ck_s hG; clear hG
      refine hp_iast d_MWorld_copies_169 tI q47 q48 ?_
      refine hp_gen (fun H49 eH49 => ?_)
      replace hF := bnd_s eH49 hF
      have s_13 : Sa H H49 := by rw [eH49]; exact Sa.rf _
      refine ab_iinc (v := l2 + 1) (lv' := [some (.ref p0), some (.ref p1), some (.int (l2 + 1))]) d_MWorld_copies_170 rfl rfl (by decide) rfl ?_
      refine ab_goto (tgt := 151) d_MWorld_copies_173 (by decide) ?_
      exact ih (l2 + 1) H49 r hF
def B_MWorld_copies_100 (N : Nat) (p0 : Nat) (p1 : Nat) : Nat → Int32 → Hp → Option (Unit × Hp)
  | 0, _, _ => none
  | n + 1, l2, H =>
    if (256 : Int32) ≤ l2 then
    B_MWorld_copies_151 N p0 p1 N 0 H
    else
    ck (H.sh[p0]? = some (13, 0)) <|
    rf (H.P p0 4) fun a66 =>
    ck (H.sh[p1]? = some (13, 0)) <|
    rf (H.P p1 4) fun a69 =>
    ar H 100 a69 fun n71 =>
    ck (inb l2 n71) <|
    bnd ((H.D a69 (l2).toNatClampNeg)) fun x74 =>
    ar H 100 a66 fun n75 =>
    ck (inb l2 n75) <|
    bnd (H.sD a66 (l2).toNatClampNeg x74) fun H78 =>
    rf (H78.P p0 5) fun a79 =>
    rf (H78.P p1 5) fun a81 =>
    ar H78 102 a81 fun n83 =>
    ck (inb l2 n83) <|
    bnd ((H78.D a81 (l2).toNatClampNeg)) fun x86 =>
    ar H78 102 a79 fun n87 =>
    ck (inb l2 n87) <|
    bnd (H78.sD a79 (l2).toNatClampNeg (vp_nar .boolean x86)) fun H90 =>
    rf (H90.P p0 6) fun a91 =>
    rf (H90.P p1 6) fun a93 =>
    ar H90 100 a93 fun n95 =>
    ck (inb l2 n95) <|
    bnd ((H90.D a93 (l2).toNatClampNeg)) fun x98 =>
    ar H90 100 a91 fun n99 =>
    ck (inb l2 n99) <|
    bnd (H90.sD a91 (l2).toNatClampNeg x98) fun H102 =>
    B_MWorld_copies_100 N p0 p1 n (l2 + 1) H102
termination_by structural n => n
set_option maxRecDepth 20000 in
set_option maxHeartbeats 2000000 in
theorem mB_MWorld_copies_100 {N : Nat} {p0 : Nat} {p1 : Nat} : ∀ (n : Nat) (l2 : Int32) (H : Hp) (r : Unit × Hp), B_MWorld_copies_100 N p0 p1 n l2 H = some r → Sa H r.2 := by
  intro n
  induction n with
  | zero => intro l2 H r hF; rw [B_MWorld_copies_100] at hF; cases hF
  | succ n ih =>
    intro l2 H r hF
    rw [B_MWorld_copies_100] at hF
    have hm := Sa.rf H
    rcases ite_s hF with ⟨q_19, hG⟩ | ⟨q_19, hG⟩
    · clear hF
      exact hm.tr (mB_MWorld_copies_151 N 0 H r hG)
    · clear hF
      obtain ⟨q104, hF⟩ := ck_s hG; clear hG
      obtain ⟨a105, e106, hG⟩ := rf_s hF; clear hF
      obtain ⟨q107, hF⟩ := ck_s hG; clear hG
      obtain ⟨a108, e109, hG⟩ := rf_s hF; clear hF
      obtain ⟨n110, q111, hF⟩ := ar_s hG; clear hG
      obtain ⟨q112, hG⟩ := ck_s hF; clear hF
      obtain ⟨x113, -, hF⟩ := bnd_g hG; clear hG
      obtain ⟨n114, q115, hG⟩ := ar_s hF; clear hF
      obtain ⟨q116, hF⟩ := ck_s hG; clear hG
      obtain ⟨H117, eH117, hG⟩ := bnd_g hF; clear hF
      replace hm : Sa H H117 := by rw [eH117]; exact hm
      obtain ⟨a118, e119, hF⟩ := rf_s hG; clear hG
      obtain ⟨a120, e121, hG⟩ := rf_s hF; clear hF
      obtain ⟨n122, q123, hF⟩ := ar_s hG; clear hG
      obtain ⟨q124, hG⟩ := ck_s hF; clear hF
      obtain ⟨x125, -, hF⟩ := bnd_g hG; clear hG
      obtain ⟨n126, q127, hG⟩ := ar_s hF; clear hF
      obtain ⟨q128, hF⟩ := ck_s hG; clear hG
      obtain ⟨H129, eH129, hG⟩ := bnd_g hF; clear hF
      replace hm : Sa H H129 := by rw [eH129]; exact hm
      obtain ⟨a130, e131, hF⟩ := rf_s hG; clear hG
      obtain ⟨a132, e133, hG⟩ := rf_s hF; clear hF
      obtain ⟨n134, q135, hF⟩ := ar_s hG; clear hG
      obtain ⟨q136, hG⟩ := ck_s hF; clear hF
      obtain ⟨x137, -, hF⟩ := bnd_g hG; clear hG
      obtain ⟨n138, q139, hG⟩ := ar_s hF; clear hF
      obtain ⟨q140, hF⟩ := ck_s hG; clear hG
      obtain ⟨H141, eH141, hG⟩ := bnd_g hF; clear hF
      replace hm : Sa H H141 := by rw [eH141]; exact hm
      exact hm.tr (ih (l2 + 1) H141 r hG)
set_option maxRecDepth 20000 in
set_option maxHeartbeats 2000000 in
theorem kB_MWorld_copies_100 {N : Nat} {p0 : Nat} {p1 : Nat} : ∀ (n : Nat) (l2 : Int32) (H : Hp) (r : Unit × Hp), B_MWorld_copies_100 N p0 p1 n l2 H = some r → ab_V y_MWorld_copies { frames := 1, cells := 0, slots := 0, locals := 24 } (po (.returned none) r.2) 0 0 0 0 100 [some (.ref p0), some (.ref p1), some (.int l2)] [] (hpw H) := by
  intro n
  induction n with
  | zero => intro l2 H r hF; rw [B_MWorld_copies_100] at hF; cases hF
  | succ n ih =>
    intro l2 H r hF
    rw [B_MWorld_copies_100] at hF
    refine ab_iload_n d_MWorld_copies_100 rfl rfl ?_
    refine ab_sipush (v := 256) d_MWorld_copies_101 (by decide) ?_
    refine ab_icmp_ge (tgt := 149) d_MWorld_copies_104 (by decide) (fun q22 => ?_) (fun q22 => ?_)
    · rw [if_pos q22] at hF
      refine ab_iconst (v := 0) d_MWorld_copies_149 (by decide) ?_
      refine ab_istore_n (lv' := [some (.ref p0), some (.ref p1), some (.int 0)]) d_MWorld_copies_150 rfl (by decide) rfl ?_
      exact kB_MWorld_copies_151 N 0 H r hF
    · rw [if_neg q22] at hF
      refine ab_aload_n d_MWorld_copies_107 rfl rfl rfl ?_
      obtain ⟨q65, hG⟩ := ck_s hF; clear hF
      obtain ⟨a66, e67, hF⟩ := rf_s hG; clear hG
      refine hp_getR (f := 4) d_MWorld_copies_108 q65 (by decide) rfl (by decide) (k9 98 rfl rfl) rfl e67 ?_
      refine ab_iload_n d_MWorld_copies_111 rfl rfl ?_
      refine ab_aload_n d_MWorld_copies_112 rfl rfl rfl ?_
      obtain ⟨q68, hG⟩ := ck_s hF; clear hF
      obtain ⟨a69, e70, hF⟩ := rf_s hG; clear hG
      refine hp_getR (f := 4) d_MWorld_copies_113 q68 (by decide) rfl (by decide) (k9 98 rfl rfl) rfl e70 ?_
      refine ab_iload_n d_MWorld_copies_116 rfl rfl ?_
      obtain ⟨n71, q72, hG⟩ := ar_s hF; clear hF
      obtain ⟨q73, hF⟩ := ck_s hG; clear hG
      refine hp_iald d_MWorld_copies_117 tI q72 q73 ?_
      refine ab_topi (fun x74 ex74 => ?_)
      replace hF := bnd_s ex74 hF
      obtain ⟨n75, q76, hG⟩ := ar_s hF; clear hF
      obtain ⟨q77, hF⟩ := ck_s hG; clear hG
      refine hp_iast d_MWorld_copies_118 tI q76 q77 ?_
      refine hp_gen (fun H78 eH78 => ?_)
      replace hF := bnd_s eH78 hF
      have s_16 : Sa H H78 := by rw [eH78]; exact Sa.rf _
      refine ab_aload_n d_MWorld_copies_119 rfl rfl rfl ?_
      obtain ⟨a79, e80, hG⟩ := rf_s hF; clear hF
      refine hp_getR (f := 5) d_MWorld_copies_120 (by rw [(s_16).1]; exact q65) (by decide) rfl (by decide) (k9 100 rfl rfl) rfl e80 ?_
      refine ab_iload_n d_MWorld_copies_123 rfl rfl ?_
      refine ab_aload_n d_MWorld_copies_124 rfl rfl rfl ?_
      obtain ⟨a81, e82, hF⟩ := rf_s hG; clear hG
      refine hp_getR (f := 5) d_MWorld_copies_125 (by rw [(s_16).1]; exact q68) (by decide) rfl (by decide) (k9 100 rfl rfl) rfl e82 ?_
      refine ab_iload_n d_MWorld_copies_128 rfl rfl ?_
      obtain ⟨n83, q84, hG⟩ := ar_s hF; clear hF
      rw [(s_16).1] at q84
      obtain ⟨q85, hF⟩ := ck_s hG; clear hG
      refine hp_zald d_MWorld_copies_129 tZ (by rw [(s_16).1]; exact q84) q85 ?_
      refine ab_topi (fun x86 ex86 => ?_)
      replace hF := bnd_s ex86 hF
      obtain ⟨n87, q88, hG⟩ := ar_s hF; clear hF
      rw [(s_16).1] at q88
      obtain ⟨q89, hF⟩ := ck_s hG; clear hG
      refine hp_zast d_MWorld_copies_130 tZ (by rw [(s_16).1]; exact q88) q89 ?_
      refine hp_gen (fun H90 eH90 => ?_)
      replace hF := bnd_s eH90 hF
      have s_17 : Sa H H90 := by rw [eH90]; exact s_16
      refine ab_aload_n d_MWorld_copies_131 rfl rfl rfl ?_
      obtain ⟨a91, e92, hG⟩ := rf_s hF; clear hF
      refine hp_getR (f := 6) d_MWorld_copies_132 (by rw [(s_17).1]; exact q65) (by decide) rfl (by decide) (k9 104 rfl rfl) rfl e92 ?_
      refine ab_iload_n d_MWorld_copies_135 rfl rfl ?_
      refine ab_aload_n d_MWorld_copies_136 rfl rfl rfl ?_
      obtain ⟨a93, e94, hF⟩ := rf_s hG; clear hG
      refine hp_getR (f := 6) d_MWorld_copies_137 (by rw [(s_17).1]; exact q68) (by decide) rfl (by decide) (k9 104 rfl rfl) rfl e94 ?_
      refine ab_iload_n d_MWorld_copies_140 rfl rfl ?_
      obtain ⟨n95, q96, hG⟩ := ar_s hF; clear hF
      rw [(s_17).1] at q96
      obtain ⟨q97, hF⟩ := ck_s hG; clear hG
      refine hp_iald d_MWorld_copies_141 tI (by rw [(s_17).1]; exact q96) q97 ?_
      refine ab_topi (fun x98 ex98 => ?_)
      replace hF := bnd_s ex98 hF
      obtain ⟨n99, q100, hG⟩ := ar_s hF; clear hF
      rw [(s_17).1] at q100
      obtain ⟨q101, hF⟩ := ck_s hG; clear hG
      refine hp_iast d_MWorld_copies_142 tI (by rw [(s_17).1]; exact q100) q101 ?_
      refine hp_gen (fun H102 eH102 => ?_)
      replace hF := bnd_s eH102 hF
      have s_18 : Sa H H102 := by rw [eH102]; exact s_17
      refine ab_iinc (v := l2 + 1) (lv' := [some (.ref p0), some (.ref p1), some (.int (l2 + 1))]) d_MWorld_copies_143 rfl rfl (by decide) rfl ?_
      refine ab_goto (tgt := 100) d_MWorld_copies_146 (by decide) ?_
      exact ih (l2 + 1) H102 r hF
def B_MWorld_copies_74 (N : Nat) (p0 : Nat) (p1 : Nat) : Nat → Int32 → Hp → Option (Unit × Hp)
  | 0, _, _ => none
  | n + 1, l2, H =>
    if (32 : Int32) ≤ l2 then
    B_MWorld_copies_100 N p0 p1 N 0 H
    else
    ck (H.sh[p0]? = some (13, 0)) <|
    rf (H.P p0 17) fun a143 =>
    ck (H.sh[p1]? = some (13, 0)) <|
    rf (H.P p1 17) fun a146 =>
    ar H 100 a146 fun n148 =>
    ck (inb l2 n148) <|
    bnd ((H.D a146 (l2).toNatClampNeg)) fun x151 =>
    ar H 100 a143 fun n152 =>
    ck (inb l2 n152) <|
    bnd (H.sD a143 (l2).toNatClampNeg x151) fun H155 =>
    B_MWorld_copies_74 N p0 p1 n (l2 + 1) H155
termination_by structural n => n
set_option maxRecDepth 20000 in
set_option maxHeartbeats 2000000 in
theorem mB_MWorld_copies_74 {N : Nat} {p0 : Nat} {p1 : Nat} : ∀ (n : Nat) (l2 : Int32) (H : Hp) (r : Unit × Hp), B_MWorld_copies_74 N p0 p1 n l2 H = some r → Sa H r.2 := by
  intro n
  induction n with
  | zero => intro l2 H r hF; rw [B_MWorld_copies_74] at hF; cases hF
  | succ n ih =>
    intro l2 H r hF
    rw [B_MWorld_copies_74] at hF
    have hm := Sa.rf H
    rcases ite_s hF with ⟨q_24, hG⟩ | ⟨q_24, hG⟩
    · clear hF
      exact hm.tr (mB_MWorld_copies_100 N 0 H r hG)
    · clear hF
      obtain ⟨q157, hF⟩ := ck_s hG; clear hG
      obtain ⟨a158, e159, hG⟩ := rf_s hF; clear hF
      obtain ⟨q160, hF⟩ := ck_s hG; clear hG
      obtain ⟨a161, e162, hG⟩ := rf_s hF; clear hF
      obtain ⟨n163, q164, hF⟩ := ar_s hG; clear hG
      obtain ⟨q165, hG⟩ := ck_s hF; clear hF
      obtain ⟨x166, -, hF⟩ := bnd_g hG; clear hG
      obtain ⟨n167, q168, hG⟩ := ar_s hF; clear hF
      obtain ⟨q169, hF⟩ := ck_s hG; clear hG
      obtain ⟨H170, eH170, hG⟩ := bnd_g hF; clear hF
      replace hm : Sa H H170 := by rw [eH170]; exact hm
      exact hm.tr (ih (l2 + 1) H170 r hG)
set_option maxRecDepth 20000 in
set_option maxHeartbeats 2000000 in
theorem kB_MWorld_copies_74 {N : Nat} {p0 : Nat} {p1 : Nat} : ∀ (n : Nat) (l2 : Int32) (H : Hp) (r : Unit × Hp), B_MWorld_copies_74 N p0 p1 n l2 H = some r → ab_V y_MWorld_copies { frames := 1, cells := 0, slots := 0, locals := 24 } (po (.returned none) r.2) 0 0 0 0 74 [some (.ref p0), some (.ref p1), some (.int l2)] [] (hpw H) := by
  intro n
  induction n with
  | zero => intro l2 H r hF; rw [B_MWorld_copies_74] at hF; cases hF
  | succ n ih =>
    intro l2 H r hF
    rw [B_MWorld_copies_74] at hF
    refine ab_iload_n d_MWorld_copies_74 rfl rfl ?_
    refine ab_bipush (v := 32) d_MWorld_copies_75 (by decide) ?_
    refine ab_icmp_ge (tgt := 98) d_MWorld_copies_77 (by decide) (fun q21 => ?_) (fun q21 => ?_)
    · rw [if_pos q21] at hF
      refine ab_iconst (v := 0) d_MWorld_copies_98 (by decide) ?_
      refine ab_istore_n (lv' := [some (.ref p0), some (.ref p1), some (.int 0)]) d_MWorld_copies_99 rfl (by decide) rfl ?_
      exact kB_MWorld_copies_100 N 0 H r hF
    · rw [if_neg q21] at hF
      refine ab_aload_n d_MWorld_copies_80 rfl rfl rfl ?_
      obtain ⟨q142, hG⟩ := ck_s hF; clear hF
      obtain ⟨a143, e144, hF⟩ := rf_s hG; clear hG
      refine hp_getR (f := 17) d_MWorld_copies_81 q142 (by decide) rfl (by decide) (k9 136 rfl rfl) rfl e144 ?_
      refine ab_iload_n d_MWorld_copies_84 rfl rfl ?_
      refine ab_aload_n d_MWorld_copies_85 rfl rfl rfl ?_
      obtain ⟨q145, hG⟩ := ck_s hF; clear hF
      obtain ⟨a146, e147, hF⟩ := rf_s hG; clear hG
      refine hp_getR (f := 17) d_MWorld_copies_86 q145 (by decide) rfl (by decide) (k9 136 rfl rfl) rfl e147 ?_
      refine ab_iload_n d_MWorld_copies_89 rfl rfl ?_
      obtain ⟨n148, q149, hG⟩ := ar_s hF; clear hF
      obtain ⟨q150, hF⟩ := ck_s hG; clear hG
      refine hp_iald d_MWorld_copies_90 tI q149 q150 ?_
      refine ab_topi (fun x151 ex151 => ?_)
      replace hF := bnd_s ex151 hF
      obtain ⟨n152, q153, hG⟩ := ar_s hF; clear hF
      obtain ⟨q154, hF⟩ := ck_s hG; clear hG
      refine hp_iast d_MWorld_copies_91 tI q153 q154 ?_
      refine hp_gen (fun H155 eH155 => ?_)
      replace hF := bnd_s eH155 hF
      have s_23 : Sa H H155 := by rw [eH155]; exact Sa.rf _
      refine ab_iinc (v := l2 + 1) (lv' := [some (.ref p0), some (.ref p1), some (.int (l2 + 1))]) d_MWorld_copies_92 rfl rfl (by decide) rfl ?_
      refine ab_goto (tgt := 74) d_MWorld_copies_95 (by decide) ?_
      exact ih (l2 + 1) H155 r hF
def F_MWorld_copies (N : Nat) (p0 : Nat) (p1 : Nat) (H : Hp) : Option (Unit × Hp) :=
    ck (H.sh[p1]? = some (13, 0)) <|
    bnd ((H.D p1 0)) fun x2 =>
    ck (H.sh[p0]? = some (13, 0)) <|
    bnd (H.sD p0 0 x2) fun H4 =>
    bnd ((H4.D p1 1)) fun x5 =>
    bnd (H4.sD p0 1 x5) fun H6 =>
    bnd ((H6.D p1 2)) fun x7 =>
    bnd (H6.sD p0 2 x7) fun H8 =>
    bnd ((H8.D p1 3)) fun x9 =>
    bnd (H8.sD p0 3 x9) fun H10 =>
    bnd ((H10.D p1 8)) fun x11 =>
    bnd (H10.sD p0 8 x11) fun H12 =>
    bnd ((H12.D p1 13)) fun x13 =>
    bnd (H12.sD p0 13 x13) fun H14 =>
    bnd ((H14.D p1 14)) fun x15 =>
    bnd (H14.sD p0 14 x15) fun H16 =>
    bnd ((H16.D p1 15)) fun x17 =>
    bnd (H16.sD p0 15 x17) fun H18 =>
    bnd ((H18.D p1 16)) fun x19 =>
    bnd (H18.sD p0 16 x19) fun H20 =>
    B_MWorld_copies_74 N p0 p1 N 0 H20
set_option maxRecDepth 20000 in
set_option maxHeartbeats 2000000 in
theorem m_MWorld_copies {N : Nat} {p0 : Nat} {p1 : Nat} {H : Hp} {r : Unit × Hp} (hF : F_MWorld_copies N p0 p1 H = some r) : Sa H r.2 := by
  unfold F_MWorld_copies at hF
  have hm := Sa.rf H
  obtain ⟨q171, hG⟩ := ck_s hF; clear hF
  obtain ⟨x172, -, hF⟩ := bnd_g hG; clear hG
  obtain ⟨q173, hG⟩ := ck_s hF; clear hF
  obtain ⟨H174, eH174, hF⟩ := bnd_g hG; clear hG
  replace hm : Sa H H174 := by rw [eH174]; exact hm
  obtain ⟨x175, -, hG⟩ := bnd_g hF; clear hF
  obtain ⟨H176, eH176, hF⟩ := bnd_g hG; clear hG
  replace hm : Sa H H176 := by rw [eH176]; exact hm
  obtain ⟨x177, -, hG⟩ := bnd_g hF; clear hF
  obtain ⟨H178, eH178, hF⟩ := bnd_g hG; clear hG
  replace hm : Sa H H178 := by rw [eH178]; exact hm
  obtain ⟨x179, -, hG⟩ := bnd_g hF; clear hF
  obtain ⟨H180, eH180, hF⟩ := bnd_g hG; clear hG
  replace hm : Sa H H180 := by rw [eH180]; exact hm
  obtain ⟨x181, -, hG⟩ := bnd_g hF; clear hF
  obtain ⟨H182, eH182, hF⟩ := bnd_g hG; clear hG
  replace hm : Sa H H182 := by rw [eH182]; exact hm
  obtain ⟨x183, -, hG⟩ := bnd_g hF; clear hF
  obtain ⟨H184, eH184, hF⟩ := bnd_g hG; clear hG
  replace hm : Sa H H184 := by rw [eH184]; exact hm
  obtain ⟨x185, -, hG⟩ := bnd_g hF; clear hF
  obtain ⟨H186, eH186, hF⟩ := bnd_g hG; clear hG
  replace hm : Sa H H186 := by rw [eH186]; exact hm
  obtain ⟨x187, -, hG⟩ := bnd_g hF; clear hF
  obtain ⟨H188, eH188, hF⟩ := bnd_g hG; clear hG
  replace hm : Sa H H188 := by rw [eH188]; exact hm
  obtain ⟨x189, -, hG⟩ := bnd_g hF; clear hF
  obtain ⟨H190, eH190, hF⟩ := bnd_g hG; clear hG
  replace hm : Sa H H190 := by rw [eH190]; exact hm
  exact hm.tr (mB_MWorld_copies_74 N 0 H190 r hF)
set_option maxRecDepth 20000 in
set_option maxHeartbeats 2000000 in
theorem k_MWorld_copies {N : Nat} {p0 : Nat} {p1 : Nat} {H : Hp} {r : Unit × Hp} (hF : F_MWorld_copies N p0 p1 H = some r) : ab_M y_MWorld_copies { frames := 1, cells := 0, slots := 0, locals := 24 } [.ref p0, .ref p1] (hpw H) (po (.returned none) r.2) := by
  unfold F_MWorld_copies at hF
  refine ab_of2 (lv := [some (.ref p0), some (.ref p1), none]) 1 rfl rfl (Nat.le_of_ble_eq_true rfl) ?_
  refine ab_aload_n d_MWorld_copies_0 rfl rfl rfl ?_
  refine ab_aload_n d_MWorld_copies_1 rfl rfl rfl ?_
  obtain ⟨q1, hG⟩ := ck_s hF; clear hF
  refine hp_getI (f := 0) d_MWorld_copies_2 q1 (by decide) rfl (by decide) (k9 87 rfl rfl) rfl ?_
  refine ab_topi (fun x2 ex2 => ?_)
  replace hG := bnd_s ex2 hG
  obtain ⟨q3, hF⟩ := ck_s hG; clear hG
  refine hp_putI (v := x2) (f := 0) d_MWorld_copies_5 q3 (by decide) rfl (by decide) (k9 87 rfl rfl) rfl rfl (fun _ => rfl) (fun _ => rfl) rfl ?_
  refine hp_gen (fun H4 eH4 => ?_)
  replace hF := bnd_s eH4 hF
  have s_1 : Sa H H4 := by rw [eH4]; exact Sa.rf _
  refine ab_aload_n d_MWorld_copies_8 rfl rfl rfl ?_
  refine ab_aload_n d_MWorld_copies_9 rfl rfl rfl ?_
  refine hp_getI (f := 1) d_MWorld_copies_10 (by rw [(s_1).1]; exact q1) (by decide) rfl (by decide) (k9 90 rfl rfl) rfl ?_
  refine ab_topi (fun x5 ex5 => ?_)
  replace hF := bnd_s ex5 hF
  refine hp_putI (v := x5) (f := 1) d_MWorld_copies_13 (by rw [(s_1).1]; exact q3) (by decide) rfl (by decide) (k9 90 rfl rfl) rfl rfl (fun _ => rfl) (fun _ => rfl) rfl ?_
  refine hp_gen (fun H6 eH6 => ?_)
  replace hF := bnd_s eH6 hF
  have s_2 : Sa H H6 := by rw [eH6]; exact s_1
  refine ab_aload_n d_MWorld_copies_16 rfl rfl rfl ?_
  refine ab_aload_n d_MWorld_copies_17 rfl rfl rfl ?_
  refine hp_getI (f := 2) d_MWorld_copies_18 (by rw [(s_2).1]; exact q1) (by decide) rfl (by decide) (k9 93 rfl rfl) rfl ?_
  refine ab_topi (fun x7 ex7 => ?_)
  replace hF := bnd_s ex7 hF
  refine hp_putI (v := x7) (f := 2) d_MWorld_copies_21 (by rw [(s_2).1]; exact q3) (by decide) rfl (by decide) (k9 93 rfl rfl) rfl rfl (fun _ => rfl) (fun _ => rfl) rfl ?_
  refine hp_gen (fun H8 eH8 => ?_)
  replace hF := bnd_s eH8 hF
  have s_3 : Sa H H8 := by rw [eH8]; exact s_2
  refine ab_aload_n d_MWorld_copies_24 rfl rfl rfl ?_
  refine ab_aload_n d_MWorld_copies_25 rfl rfl rfl ?_
  refine hp_getI (f := 3) d_MWorld_copies_26 (by rw [(s_3).1]; exact q1) (by decide) rfl (by decide) (k9 95 rfl rfl) rfl ?_
  refine ab_topi (fun x9 ex9 => ?_)
  replace hF := bnd_s ex9 hF
  refine hp_putI (v := x9) (f := 3) d_MWorld_copies_29 (by rw [(s_3).1]; exact q3) (by decide) rfl (by decide) (k9 95 rfl rfl) rfl rfl (fun _ => rfl) (fun _ => rfl) rfl ?_
  refine hp_gen (fun H10 eH10 => ?_)
  replace hF := bnd_s eH10 hF
  have s_4 : Sa H H10 := by rw [eH10]; exact s_3
  refine ab_aload_n d_MWorld_copies_32 rfl rfl rfl ?_
  refine ab_aload_n d_MWorld_copies_33 rfl rfl rfl ?_
  refine hp_getI (f := 8) d_MWorld_copies_34 (by rw [(s_4).1]; exact q1) (by decide) rfl (by decide) (k9 111 rfl rfl) rfl ?_
  refine ab_topi (fun x11 ex11 => ?_)
  replace hF := bnd_s ex11 hF
  refine hp_putI (v := x11) (f := 8) d_MWorld_copies_37 (by rw [(s_4).1]; exact q3) (by decide) rfl (by decide) (k9 111 rfl rfl) rfl rfl (fun _ => rfl) (fun _ => rfl) rfl ?_
  refine hp_gen (fun H12 eH12 => ?_)
  replace hF := bnd_s eH12 hF
  have s_5 : Sa H H12 := by rw [eH12]; exact s_4
  refine ab_aload_n d_MWorld_copies_40 rfl rfl rfl ?_
  refine ab_aload_n d_MWorld_copies_41 rfl rfl rfl ?_
  refine hp_getI (f := 13) d_MWorld_copies_42 (by rw [(s_5).1]; exact q1) (by decide) rfl (by decide) (k9 126 rfl rfl) rfl ?_
  refine ab_topi (fun x13 ex13 => ?_)
  replace hF := bnd_s ex13 hF
  refine hp_putI (v := x13) (f := 13) d_MWorld_copies_45 (by rw [(s_5).1]; exact q3) (by decide) rfl (by decide) (k9 126 rfl rfl) rfl rfl (fun _ => rfl) (fun _ => rfl) rfl ?_
  refine hp_gen (fun H14 eH14 => ?_)
  replace hF := bnd_s eH14 hF
  have s_6 : Sa H H14 := by rw [eH14]; exact s_5
  refine ab_aload_n d_MWorld_copies_48 rfl rfl rfl ?_
  refine ab_aload_n d_MWorld_copies_49 rfl rfl rfl ?_
  refine hp_getI (f := 14) d_MWorld_copies_50 (by rw [(s_6).1]; exact q1) (by decide) rfl (by decide) (k9 129 rfl rfl) rfl ?_
  refine ab_topi (fun x15 ex15 => ?_)
  replace hF := bnd_s ex15 hF
  refine hp_putI (v := x15) (f := 14) d_MWorld_copies_53 (by rw [(s_6).1]; exact q3) (by decide) rfl (by decide) (k9 129 rfl rfl) rfl rfl (fun _ => rfl) (fun _ => rfl) rfl ?_
  refine hp_gen (fun H16 eH16 => ?_)
  replace hF := bnd_s eH16 hF
  have s_7 : Sa H H16 := by rw [eH16]; exact s_6
  refine ab_aload_n d_MWorld_copies_56 rfl rfl rfl ?_
  refine ab_aload_n d_MWorld_copies_57 rfl rfl rfl ?_
  refine hp_getI (f := 15) d_MWorld_copies_58 (by rw [(s_7).1]; exact q1) (by decide) rfl (by decide) (k9 131 rfl rfl) rfl ?_
  refine ab_topi (fun x17 ex17 => ?_)
  replace hF := bnd_s ex17 hF
  refine hp_putI (v := x17) (f := 15) d_MWorld_copies_61 (by rw [(s_7).1]; exact q3) (by decide) rfl (by decide) (k9 131 rfl rfl) rfl rfl (fun _ => rfl) (fun _ => rfl) rfl ?_
  refine hp_gen (fun H18 eH18 => ?_)
  replace hF := bnd_s eH18 hF
  have s_8 : Sa H H18 := by rw [eH18]; exact s_7
  refine ab_aload_n d_MWorld_copies_64 rfl rfl rfl ?_
  refine ab_aload_n d_MWorld_copies_65 rfl rfl rfl ?_
  refine hp_getI (f := 16) d_MWorld_copies_66 (by rw [(s_8).1]; exact q1) (by decide) rfl (by decide) (k9 133 rfl rfl) rfl ?_
  refine ab_topi (fun x19 ex19 => ?_)
  replace hF := bnd_s ex19 hF
  refine hp_putI (v := x19) (f := 16) d_MWorld_copies_69 (by rw [(s_8).1]; exact q3) (by decide) rfl (by decide) (k9 133 rfl rfl) rfl rfl (fun _ => rfl) (fun _ => rfl) rfl ?_
  refine hp_gen (fun H20 eH20 => ?_)
  replace hF := bnd_s eH20 hF
  have s_9 : Sa H H20 := by rw [eH20]; exact s_8
  refine ab_iconst (v := 0) d_MWorld_copies_72 (by decide) ?_
  refine ab_istore_n (lv' := [some (.ref p0), some (.ref p1), some (.int 0)]) d_MWorld_copies_73 rfl (by decide) rfl ?_
  exact kB_MWorld_copies_74 N 0 H20 r hF
def y_M_forgets : ab_Y := (⟨"WorldEngineModel", "forgets", "()V"⟩, prog_14_method_10_code, 2, none, [])
theorem d_M_forgets_0 : decode y_M_forgets.2.1 0 = .ok (.iconst 0, 1) := by decide +kernel
theorem d_M_forgets_1 : decode y_M_forgets.2.1 1 = .ok (.istore_n 1, 1) := by decide +kernel
theorem d_M_forgets_2 : decode y_M_forgets.2.1 2 = .ok (.iload_n 1, 1) := by decide +kernel
theorem d_M_forgets_3 : decode y_M_forgets.2.1 3 = .ok (.sipush 256, 3) := by decide +kernel
theorem d_M_forgets_6 : decode y_M_forgets.2.1 6 = .ok (.if_icmp .ge 16, 3) := by decide +kernel
theorem d_M_forgets_9 : decode y_M_forgets.2.1 9 = .ok (.aload_n 0, 1) := by decide +kernel
theorem d_M_forgets_10 : decode y_M_forgets.2.1 10 = .ok (.getfield 57, 3) := by decide +kernel
theorem d_M_forgets_13 : decode y_M_forgets.2.1 13 = .ok (.iload_n 1, 1) := by decide +kernel
theorem d_M_forgets_14 : decode y_M_forgets.2.1 14 = .ok (.iconst 0, 1) := by decide +kernel
theorem d_M_forgets_15 : decode y_M_forgets.2.1 15 = .ok (.bastore, 1) := by decide +kernel
theorem d_M_forgets_16 : decode y_M_forgets.2.1 16 = .ok (.iinc 1 1, 3) := by decide +kernel
theorem d_M_forgets_19 : decode y_M_forgets.2.1 19 = .ok (.goto (-17), 3) := by decide +kernel
theorem d_M_forgets_22 : decode y_M_forgets.2.1 22 = .ok (.iconst 0, 1) := by decide +kernel
theorem d_M_forgets_23 : decode y_M_forgets.2.1 23 = .ok (.istore_n 1, 1) := by decide +kernel
theorem d_M_forgets_24 : decode y_M_forgets.2.1 24 = .ok (.iload_n 1, 1) := by decide +kernel
theorem d_M_forgets_25 : decode y_M_forgets.2.1 25 = .ok (.iconst 4, 1) := by decide +kernel
theorem d_M_forgets_26 : decode y_M_forgets.2.1 26 = .ok (.if_icmp .ge 16, 3) := by decide +kernel
theorem d_M_forgets_29 : decode y_M_forgets.2.1 29 = .ok (.aload_n 0, 1) := by decide +kernel
theorem d_M_forgets_30 : decode y_M_forgets.2.1 30 = .ok (.getfield 64, 3) := by decide +kernel
theorem d_M_forgets_33 : decode y_M_forgets.2.1 33 = .ok (.iload_n 1, 1) := by decide +kernel
theorem d_M_forgets_34 : decode y_M_forgets.2.1 34 = .ok (.iconst 0, 1) := by decide +kernel
theorem d_M_forgets_35 : decode y_M_forgets.2.1 35 = .ok (.iastore, 1) := by decide +kernel
theorem d_M_forgets_36 : decode y_M_forgets.2.1 36 = .ok (.iinc 1 1, 3) := by decide +kernel
theorem d_M_forgets_39 : decode y_M_forgets.2.1 39 = .ok (.goto (-15), 3) := by decide +kernel
theorem d_M_forgets_42 : decode y_M_forgets.2.1 42 = .ok (.return_, 1) := by decide +kernel
theorem s_M_forgets : ab_Stat y_M_forgets 0 := ⟨(k11 157 rfl rfl), (k1 19 rfl rfl), ⟨by decide, by decide⟩, by decide +kernel⟩
theorem i_M_forgets : Cond.instanceMethod y_M_forgets.1 ∈ ab_T := (k11 156 rfl rfl)
theorem v_M_forgets : Cond.selects "WorldEngineModel" y_M_forgets.1 y_M_forgets.1 ∈ ab_T := ab_s (List.mem_of_getElem? (i := 168) rfl) rfl
def B_M_forgets_24 (N : Nat) (p0 : Nat) : Nat → Int32 → Hp → Option (Unit × Hp)
  | 0, _, _ => none
  | n + 1, l1, H =>
    if (4 : Int32) ≤ l1 then
    some ((), H)
    else
    ck (H.sh[p0]? = some (12, 0)) <|
    rf (H.P p0 17) fun a4 =>
    ar H 100 a4 fun n6 =>
    ck (inb l1 n6) <|
    bnd (H.sD a4 (l1).toNatClampNeg (0 : Int32)) fun H9 =>
    B_M_forgets_24 N p0 n (l1 + 1) H9
termination_by structural n => n
set_option maxRecDepth 20000 in
set_option maxHeartbeats 2000000 in
theorem mB_M_forgets_24 {N : Nat} {p0 : Nat} : ∀ (n : Nat) (l1 : Int32) (H : Hp) (r : Unit × Hp), B_M_forgets_24 N p0 n l1 H = some r → Sa H r.2 := by
  intro n
  induction n with
  | zero => intro l1 H r hF; rw [B_M_forgets_24] at hF; cases hF
  | succ n ih =>
    intro l1 H r hF
    rw [B_M_forgets_24] at hF
    have hm := Sa.rf H
    rcases ite_s hF with ⟨q_2, hG⟩ | ⟨q_2, hG⟩
    · clear hF
      have hr := Option.some.inj hG; subst hr
      exact hm
    · clear hF
      obtain ⟨q11, hF⟩ := ck_s hG; clear hG
      obtain ⟨a12, e13, hG⟩ := rf_s hF; clear hF
      obtain ⟨n14, q15, hF⟩ := ar_s hG; clear hG
      obtain ⟨q16, hG⟩ := ck_s hF; clear hF
      obtain ⟨H17, eH17, hF⟩ := bnd_g hG; clear hG
      replace hm : Sa H H17 := by rw [eH17]; exact hm
      exact hm.tr (ih (l1 + 1) H17 r hF)
set_option maxRecDepth 20000 in
set_option maxHeartbeats 2000000 in
theorem kB_M_forgets_24 {N : Nat} {p0 : Nat} : ∀ (n : Nat) (l1 : Int32) (H : Hp) (r : Unit × Hp), B_M_forgets_24 N p0 n l1 H = some r → ab_V y_M_forgets { frames := 0, cells := 0, slots := 0, locals := 0 } (po (.returned none) r.2) 0 0 0 0 24 [some (.ref p0), some (.int l1)] [] (hpw H) := by
  intro n
  induction n with
  | zero => intro l1 H r hF; rw [B_M_forgets_24] at hF; cases hF
  | succ n ih =>
    intro l1 H r hF
    rw [B_M_forgets_24] at hF
    refine ab_iload_n d_M_forgets_24 rfl rfl ?_
    refine ab_iconst (v := 4) d_M_forgets_25 (by decide) ?_
    refine ab_icmp_ge (tgt := 42) d_M_forgets_26 (by decide) (fun q2 => ?_) (fun q2 => ?_)
    · rw [if_pos q2] at hF
      exact ab_vret d_M_forgets_42 rfl (Nat.le_refl _) (Nat.le_refl _) (by have hr := Option.some.inj hF; subst hr; exact ⟨rfl, rfl⟩)
    · rw [if_neg q2] at hF
      refine ab_aload_n d_M_forgets_29 rfl rfl rfl ?_
      obtain ⟨q3, hG⟩ := ck_s hF; clear hF
      obtain ⟨a4, e5, hF⟩ := rf_s hG; clear hG
      refine hp_getR (f := 17) d_M_forgets_30 q3 (by decide) rfl (by decide) (k10 10 rfl rfl) rfl e5 ?_
      refine ab_iload_n d_M_forgets_33 rfl rfl ?_
      refine ab_iconst (v := 0) d_M_forgets_34 (by decide) ?_
      obtain ⟨n6, q7, hG⟩ := ar_s hF; clear hF
      obtain ⟨q8, hF⟩ := ck_s hG; clear hG
      refine hp_iast d_M_forgets_35 tI q7 q8 ?_
      refine hp_gen (fun H9 eH9 => ?_)
      replace hF := bnd_s eH9 hF
      have s_1 : Sa H H9 := by rw [eH9]; exact Sa.rf _
      refine ab_iinc (v := l1 + 1) (lv' := [some (.ref p0), some (.int (l1 + 1))]) d_M_forgets_36 rfl rfl (by decide) rfl ?_
      refine ab_goto (tgt := 24) d_M_forgets_39 (by decide) ?_
      exact ih (l1 + 1) H9 r hF
def B_M_forgets_2 (N : Nat) (p0 : Nat) : Nat → Int32 → Hp → Option (Unit × Hp)
  | 0, _, _ => none
  | n + 1, l1, H =>
    if (256 : Int32) ≤ l1 then
    B_M_forgets_24 N p0 N 0 H
    else
    ck (H.sh[p0]? = some (12, 0)) <|
    rf (H.P p0 15) fun a19 =>
    ar H 102 a19 fun n21 =>
    ck (inb l1 n21) <|
    bnd (H.sD a19 (l1).toNatClampNeg (vp_nar .boolean (0 : Int32))) fun H24 =>
    B_M_forgets_2 N p0 n (l1 + 1) H24
termination_by structural n => n
set_option maxRecDepth 20000 in
set_option maxHeartbeats 2000000 in
theorem mB_M_forgets_2 {N : Nat} {p0 : Nat} : ∀ (n : Nat) (l1 : Int32) (H : Hp) (r : Unit × Hp), B_M_forgets_2 N p0 n l1 H = some r → Sa H r.2 := by
  intro n
  induction n with
  | zero => intro l1 H r hF; rw [B_M_forgets_2] at hF; cases hF
  | succ n ih =>
    intro l1 H r hF
    rw [B_M_forgets_2] at hF
    have hm := Sa.rf H
    rcases ite_s hF with ⟨q_5, hG⟩ | ⟨q_5, hG⟩
    · clear hF
      exact hm.tr (mB_M_forgets_24 N 0 H r hG)
    · clear hF
      obtain ⟨q26, hF⟩ := ck_s hG; clear hG
      obtain ⟨a27, e28, hG⟩ := rf_s hF; clear hF
      obtain ⟨n29, q30, hF⟩ := ar_s hG; clear hG
      obtain ⟨q31, hG⟩ := ck_s hF; clear hF
      obtain ⟨H32, eH32, hF⟩ := bnd_g hG; clear hG
      replace hm : Sa H H32 := by rw [eH32]; exact hm
      exact hm.tr (ih (l1 + 1) H32 r hF)
set_option maxRecDepth 20000 in
set_option maxHeartbeats 2000000 in
theorem kB_M_forgets_2 {N : Nat} {p0 : Nat} : ∀ (n : Nat) (l1 : Int32) (H : Hp) (r : Unit × Hp), B_M_forgets_2 N p0 n l1 H = some r → ab_V y_M_forgets { frames := 0, cells := 0, slots := 0, locals := 0 } (po (.returned none) r.2) 0 0 0 0 2 [some (.ref p0), some (.int l1)] [] (hpw H) := by
  intro n
  induction n with
  | zero => intro l1 H r hF; rw [B_M_forgets_2] at hF; cases hF
  | succ n ih =>
    intro l1 H r hF
    rw [B_M_forgets_2] at hF
    refine ab_iload_n d_M_forgets_2 rfl rfl ?_
    refine ab_sipush (v := 256) d_M_forgets_3 (by decide) ?_
    refine ab_icmp_ge (tgt := 22) d_M_forgets_6 (by decide) (fun q1 => ?_) (fun q1 => ?_)
    · rw [if_pos q1] at hF
      refine ab_iconst (v := 0) d_M_forgets_22 (by decide) ?_
      refine ab_istore_n (lv' := [some (.ref p0), some (.int 0)]) d_M_forgets_23 rfl (by decide) rfl ?_
      exact kB_M_forgets_24 N 0 H r hF
    · rw [if_neg q1] at hF
      refine ab_aload_n d_M_forgets_9 rfl rfl rfl ?_
      obtain ⟨q18, hG⟩ := ck_s hF; clear hF
      obtain ⟨a19, e20, hF⟩ := rf_s hG; clear hG
      refine hp_getR (f := 15) d_M_forgets_10 q18 (by decide) rfl (by decide) (k10 8 rfl rfl) rfl e20 ?_
      refine ab_iload_n d_M_forgets_13 rfl rfl ?_
      refine ab_iconst (v := 0) d_M_forgets_14 (by decide) ?_
      obtain ⟨n21, q22, hG⟩ := ar_s hF; clear hF
      obtain ⟨q23, hF⟩ := ck_s hG; clear hG
      refine hp_zast d_M_forgets_15 tZ q22 q23 ?_
      refine hp_gen (fun H24 eH24 => ?_)
      replace hF := bnd_s eH24 hF
      have s_4 : Sa H H24 := by rw [eH24]; exact Sa.rf _
      refine ab_iinc (v := l1 + 1) (lv' := [some (.ref p0), some (.int (l1 + 1))]) d_M_forgets_16 rfl rfl (by decide) rfl ?_
      refine ab_goto (tgt := 2) d_M_forgets_19 (by decide) ?_
      exact ih (l1 + 1) H24 r hF
def F_M_forgets (N : Nat) (p0 : Nat) (H : Hp) : Option (Unit × Hp) :=
    B_M_forgets_2 N p0 N 0 H
set_option maxRecDepth 20000 in
set_option maxHeartbeats 2000000 in
theorem m_M_forgets {N : Nat} {p0 : Nat} {H : Hp} {r : Unit × Hp} (hF : F_M_forgets N p0 H = some r) : Sa H r.2 := by
  unfold F_M_forgets at hF
  have hm := Sa.rf H
  exact hm.tr (mB_M_forgets_2 N 0 H r hF)
set_option maxRecDepth 20000 in
set_option maxHeartbeats 2000000 in
theorem k_M_forgets {N : Nat} {p0 : Nat} {H : Hp} {r : Unit × Hp} (hF : F_M_forgets N p0 H = some r) : ab_M y_M_forgets { frames := 0, cells := 0, slots := 0, locals := 0 } [.ref p0] (hpw H) (po (.returned none) r.2) := by
  unfold F_M_forgets at hF
  refine ab_of2 (lv := [some (.ref p0), none]) 1 rfl rfl (Nat.le_of_ble_eq_true rfl) ?_
  refine ab_iconst (v := 0) d_M_forgets_0 (by decide) ?_
  refine ab_istore_n (lv' := [some (.ref p0), some (.int 0)]) d_M_forgets_1 rfl (by decide) rfl ?_
  exact kB_M_forgets_2 N 0 H r hF
def y_M_text : ab_Y := (⟨"WorldEngineModel", "text", "(I)I"⟩, prog_14_method_9_code, 2, (some FieldType.int), [])
theorem d_M_text_0 : decode y_M_text.2.1 0 = .ok (.aload_n 0, 1) := by decide +kernel
theorem d_M_text_1 : decode y_M_text.2.1 1 = .ok (.iconst 0, 1) := by decide +kernel
theorem d_M_text_2 : decode y_M_text.2.1 2 = .ok (.putfield 83, 3) := by decide +kernel
theorem d_M_text_5 : decode y_M_text.2.1 5 = .ok (.aload_n 0, 1) := by decide +kernel
theorem d_M_text_6 : decode y_M_text.2.1 6 = .ok (.invokevirtual 117, 3) := by decide +kernel
theorem d_M_text_9 : decode y_M_text.2.1 9 = .ok (.ifCond .ne 9, 3) := by decide +kernel
theorem d_M_text_12 : decode y_M_text.2.1 12 = .ok (.aload_n 0, 1) := by decide +kernel
theorem d_M_text_13 : decode y_M_text.2.1 13 = .ok (.getfield 23, 3) := by decide +kernel
theorem d_M_text_16 : decode y_M_text.2.1 16 = .ok (.ineg, 1) := by decide +kernel
theorem d_M_text_17 : decode y_M_text.2.1 17 = .ok (.ireturn, 1) := by decide +kernel
theorem d_M_text_18 : decode y_M_text.2.1 18 = .ok (.aload_n 0, 1) := by decide +kernel
theorem d_M_text_19 : decode y_M_text.2.1 19 = .ok (.invokevirtual 120, 3) := by decide +kernel
theorem d_M_text_22 : decode y_M_text.2.1 22 = .ok (.aload_n 0, 1) := by decide +kernel
theorem d_M_text_23 : decode y_M_text.2.1 23 = .ok (.getfield 37, 3) := by decide +kernel
theorem d_M_text_26 : decode y_M_text.2.1 26 = .ok (.invokevirtual 123, 3) := by decide +kernel
theorem d_M_text_29 : decode y_M_text.2.1 29 = .ok (.aload_n 0, 1) := by decide +kernel
theorem d_M_text_30 : decode y_M_text.2.1 30 = .ok (.getfield 37, 3) := by decide +kernel
theorem d_M_text_33 : decode y_M_text.2.1 33 = .ok (.iload_n 1, 1) := by decide +kernel
theorem d_M_text_34 : decode y_M_text.2.1 34 = .ok (.putfield 126, 3) := by decide +kernel
theorem d_M_text_37 : decode y_M_text.2.1 37 = .ok (.aload_n 0, 1) := by decide +kernel
theorem d_M_text_38 : decode y_M_text.2.1 38 = .ok (.getfield 33, 3) := by decide +kernel
theorem d_M_text_41 : decode y_M_text.2.1 41 = .ok (.aload_n 0, 1) := by decide +kernel
theorem d_M_text_42 : decode y_M_text.2.1 42 = .ok (.getfield 37, 3) := by decide +kernel
theorem d_M_text_45 : decode y_M_text.2.1 45 = .ok (.invokevirtual 129, 3) := by decide +kernel
theorem d_M_text_48 : decode y_M_text.2.1 48 = .ok (.aload_n 0, 1) := by decide +kernel
theorem d_M_text_49 : decode y_M_text.2.1 49 = .ok (.invokevirtual 133, 3) := by decide +kernel
theorem d_M_text_52 : decode y_M_text.2.1 52 = .ok (.aload_n 0, 1) := by decide +kernel
theorem d_M_text_53 : decode y_M_text.2.1 53 = .ok (.iconst 0, 1) := by decide +kernel
theorem d_M_text_54 : decode y_M_text.2.1 54 = .ok (.putfield 136, 3) := by decide +kernel
theorem d_M_text_57 : decode y_M_text.2.1 57 = .ok (.aload_n 0, 1) := by decide +kernel
theorem d_M_text_58 : decode y_M_text.2.1 58 = .ok (.iconst 0, 1) := by decide +kernel
theorem d_M_text_59 : decode y_M_text.2.1 59 = .ok (.putfield 139, 3) := by decide +kernel
theorem d_M_text_62 : decode y_M_text.2.1 62 = .ok (.aload_n 0, 1) := by decide +kernel
theorem d_M_text_63 : decode y_M_text.2.1 63 = .ok (.getfield 16, 3) := by decide +kernel
theorem d_M_text_66 : decode y_M_text.2.1 66 = .ok (.getfield 142, 3) := by decide +kernel
theorem d_M_text_69 : decode y_M_text.2.1 69 = .ok (.ireturn, 1) := by decide +kernel
theorem s_M_text : ab_Stat y_M_text 1 := ⟨(k10 99 rfl rfl), (k1 19 rfl rfl), ⟨by decide, by decide⟩, by decide +kernel⟩
theorem i_M_text : Cond.instanceMethod y_M_text.1 ∈ ab_T := (k10 97 rfl rfl)
theorem v_M_text : Cond.selects "WorldEngineModel" y_M_text.1 y_M_text.1 ∈ ab_T := (k10 98 rfl rfl)
def F_M_text (N : Nat) (p0 : Nat) (p1 : Int32) (H : Hp) : Option (Int32 × Hp) :=
    ck (H.sh[p0]? = some (12, 0)) <|
    bnd (H.sD p0 0 (0 : Int32)) fun H2 =>
    bC (F_M_reads N p0 H2) fun v4 H5 =>
    if v4 = (0 : Int32) then
    bnd ((H5.D p0 6)) fun x37 =>
    some (-x37, H5)
    else
    bC (F_M_takes N p0 H5) fun v8 H9 =>
    rf (H9.P p0 9) fun a10 =>
    ck (H9.sh[a10]? = some (13, 0)) <|
    bC (F_MWorld_begin N a10 H9) fun v14 H15 =>
    rf (H15.P p0 9) fun a16 =>
    ck (H15.sh[a16]? = some (13, 0)) <|
    bnd (H15.sD a16 1 p1) fun H19 =>
    rf (H19.P p0 8) fun a20 =>
    rf (H19.P p0 9) fun a22 =>
    ck (H19.sh[a20]? = some (13, 0)) <|
    bC (F_MWorld_copies N a20 a22 H19) fun v26 H27 =>
    bC (F_M_forgets N p0 H27) fun v29 H30 =>
    bnd (H30.sD p0 20 (0 : Int32)) fun H31 =>
    bnd (H31.sD p0 13 (0 : Int32)) fun H32 =>
    rf (H32.P p0 3) fun a33 =>
    ck (H32.sh[a33]? = some (14, 0)) <|
    bnd ((H32.D a33 29)) fun x36 =>
    some (x36, H32)
set_option maxRecDepth 20000 in
set_option maxHeartbeats 2000000 in
theorem m_M_text {N : Nat} {p0 : Nat} {p1 : Int32} {H : Hp} {r : Int32 × Hp} (hF : F_M_text N p0 p1 H = some r) : Sa H r.2 := by
  unfold F_M_text at hF
  have hm := Sa.rf H
  obtain ⟨q38, hG⟩ := ck_s hF; clear hF
  obtain ⟨H39, eH39, hF⟩ := bnd_g hG; clear hG
  replace hm : Sa H H39 := by rw [eH39]; exact hm
  obtain ⟨v41, H42, z40, hG⟩ := bC_s hF; clear hF
  replace hm : Sa H H42 := hm.tr (m_M_reads z40)
  rcases ite_s hG with ⟨q_12, hF⟩ | ⟨q_12, hF⟩
  · clear hG
    obtain ⟨x44, -, hG⟩ := bnd_g hF; clear hF
    have hr := Option.some.inj hG; subst hr
    exact hm
  · clear hG
    obtain ⟨v46, H47, z45, hG⟩ := bC_s hF; clear hF
    replace hm : Sa H H47 := hm.tr (m_M_takes z45)
    obtain ⟨a48, e49, hF⟩ := rf_s hG; clear hG
    obtain ⟨q50, hG⟩ := ck_s hF; clear hF
    obtain ⟨v52, H53, z51, hF⟩ := bC_s hG; clear hG
    replace hm : Sa H H53 := hm.tr (m_MWorld_begin z51)
    obtain ⟨a54, e55, hG⟩ := rf_s hF; clear hF
    obtain ⟨q56, hF⟩ := ck_s hG; clear hG
    obtain ⟨H57, eH57, hG⟩ := bnd_g hF; clear hF
    replace hm : Sa H H57 := by rw [eH57]; exact hm
    obtain ⟨a58, e59, hF⟩ := rf_s hG; clear hG
    obtain ⟨a60, e61, hG⟩ := rf_s hF; clear hF
    obtain ⟨q62, hF⟩ := ck_s hG; clear hG
    obtain ⟨v64, H65, z63, hG⟩ := bC_s hF; clear hF
    replace hm : Sa H H65 := hm.tr (m_MWorld_copies z63)
    obtain ⟨v67, H68, z66, hF⟩ := bC_s hG; clear hG
    replace hm : Sa H H68 := hm.tr (m_M_forgets z66)
    obtain ⟨H69, eH69, hG⟩ := bnd_g hF; clear hF
    replace hm : Sa H H69 := by rw [eH69]; exact hm
    obtain ⟨H70, eH70, hF⟩ := bnd_g hG; clear hG
    replace hm : Sa H H70 := by rw [eH70]; exact hm
    obtain ⟨a71, e72, hG⟩ := rf_s hF; clear hF
    obtain ⟨q73, hF⟩ := ck_s hG; clear hG
    obtain ⟨x74, -, hG⟩ := bnd_g hF; clear hF
    have hr := Option.some.inj hG; subst hr
    exact hm
set_option maxRecDepth 20000 in
set_option maxHeartbeats 2000000 in
theorem k_M_text {N : Nat} {p0 : Nat} {p1 : Int32} {H : Hp} {r : Int32 × Hp} (hF : F_M_text N p0 p1 H = some r) : ab_M y_M_text { frames := 358, cells := 0, slots := 0, locals := 8098 } [.ref p0, .int p1] (hpw H) (po (.returned (some (.int r.1))) r.2) := by
  unfold F_M_text at hF
  refine ab_of2 (lv := [some (.ref p0), some (.int p1)]) 0 rfl rfl (Nat.le_of_ble_eq_true rfl) ?_
  refine ab_aload_n d_M_text_0 rfl rfl rfl ?_
  refine ab_iconst (v := 0) d_M_text_1 (by decide) ?_
  obtain ⟨q1, hG⟩ := ck_s hF; clear hF
  refine hp_putI (v := 0) (f := 0) d_M_text_2 q1 (by decide) rfl (by decide) (k9 233 rfl rfl) rfl rfl (fun _ => rfl) (fun _ => rfl) rfl ?_
  refine hp_gen (fun H2 eH2 => ?_)
  replace hG := bnd_s eH2 hG
  have s_1 : Sa H H2 := by rw [eH2]; exact Sa.rf _
  refine ab_aload_n d_M_text_5 rfl rfl rfl ?_
  obtain ⟨v4, H5, z3, hF⟩ := bC_s hG; clear hG
  refine hp_callV_a (v := .int v4) (H1 := H5) (As := []) (rest := []) d_M_text_6 (k_M_reads z3) (ab_mkC s_M_reads (Nat.le_of_ble_eq_true rfl) (Nat.le_of_ble_eq_true rfl) (Nat.le_refl 0) (Nat.le_refl 0)) (k10 100 rfl rfl) i_M_reads v_M_reads (by rw [(s_1).1]; exact q1) (by decide) rfl rfl (Nat.le_of_ble_eq_true rfl) ?_
  have s_2 : Sa H H5 := (s_1).tr (m_M_reads z3)
  refine ab_if_ne (tgt := 18) d_M_text_9 (by decide) (fun q6 => ?_) (fun q6 => ?_)
  · rw [if_neg q6] at hF
    refine ab_aload_n d_M_text_18 rfl rfl rfl ?_
    obtain ⟨v8, H9, z7, hG⟩ := bC_s hF; clear hF
    refine hp_callV_v (H1 := H9) (As := []) (rest := []) d_M_text_19 (k_M_takes z7) (ab_mkC s_M_takes (Nat.le_of_ble_eq_true rfl) (Nat.le_of_ble_eq_true rfl) (Nat.le_refl 0) (Nat.le_refl 0)) (k11 141 rfl rfl) i_M_takes v_M_takes (by rw [(s_2).1]; exact q1) (by decide) rfl rfl (Nat.le_of_ble_eq_true rfl) ?_
    have s_3 : Sa H H9 := (s_2).tr (m_M_takes z7)
    refine ab_aload_n d_M_text_22 rfl rfl rfl ?_
    obtain ⟨a10, e11, hF⟩ := rf_s hG; clear hG
    refine hp_getR (f := 9) d_M_text_23 (by rw [(s_3).1]; exact q1) (by decide) rfl (by decide) (k10 2 rfl rfl) rfl e11 ?_
    obtain ⟨q12, hG⟩ := ck_s hF; clear hF
    rw [(s_3).1] at q12
    obtain ⟨v14, H15, z13, hF⟩ := bC_s hG; clear hG
    refine hp_callV_v (H1 := H15) (As := []) (rest := []) d_M_text_26 (k_MWorld_begin z13) (ab_mkC s_MWorld_begin (Nat.le_of_ble_eq_true rfl) (Nat.le_of_ble_eq_true rfl) (Nat.le_refl 0) (Nat.le_refl 0)) (k11 145 rfl rfl) i_MWorld_begin v_MWorld_begin (by rw [(s_3).1]; exact q12) (by decide) rfl rfl (Nat.le_of_ble_eq_true rfl) ?_
    have s_4 : Sa H H15 := (s_3).tr (m_MWorld_begin z13)
    refine ab_aload_n d_M_text_29 rfl rfl rfl ?_
    obtain ⟨a16, e17, hG⟩ := rf_s hF; clear hF
    refine hp_getR (f := 9) d_M_text_30 (by rw [(s_4).1]; exact q1) (by decide) rfl (by decide) (k10 2 rfl rfl) rfl e17 ?_
    refine ab_iload_n d_M_text_33 rfl rfl ?_
    obtain ⟨q18, hF⟩ := ck_s hG; clear hG
    rw [(s_4).1] at q18
    refine hp_putIN (v := p1) (f := 1) d_M_text_34 (by rw [(s_4).1]; exact q18) (by decide) rfl (by decide) (k9 91 rfl rfl) rfl rfl (fun _ => rfl) (fun _ => rfl) rfl ?_
    refine hp_gen (fun H19 eH19 => ?_)
    replace hF := bnd_s eH19 hF
    have s_5 : Sa H H19 := by rw [eH19]; exact s_4
    refine ab_aload_n d_M_text_37 rfl rfl rfl ?_
    obtain ⟨a20, e21, hG⟩ := rf_s hF; clear hF
    refine hp_getR (f := 8) d_M_text_38 (by rw [(s_5).1]; exact q1) (by decide) rfl (by decide) (k10 1 rfl rfl) rfl e21 ?_
    refine ab_aload_n d_M_text_41 rfl rfl rfl ?_
    obtain ⟨a22, e23, hF⟩ := rf_s hG; clear hG
    refine hp_getR (f := 9) d_M_text_42 (by rw [(s_5).1]; exact q1) (by decide) rfl (by decide) (k10 2 rfl rfl) rfl e23 ?_
    obtain ⟨q24, hG⟩ := ck_s hF; clear hF
    rw [(s_5).1] at q24
    obtain ⟨v26, H27, z25, hF⟩ := bC_s hG; clear hG
    refine hp_callV_v (H1 := H27) (As := [.ref a22]) (rest := []) d_M_text_45 (k_MWorld_copies z25) (ab_mkC s_MWorld_copies (Nat.le_of_ble_eq_true rfl) (Nat.le_of_ble_eq_true rfl) (Nat.le_refl 0) (Nat.le_refl 0)) (k11 146 rfl rfl) i_MWorld_copies v_MWorld_copies (by rw [(s_5).1]; exact q24) (by decide) rfl rfl (Nat.le_of_ble_eq_true rfl) ?_
    have s_6 : Sa H H27 := (s_5).tr (m_MWorld_copies z25)
    refine ab_aload_n d_M_text_48 rfl rfl rfl ?_
    obtain ⟨v29, H30, z28, hG⟩ := bC_s hF; clear hF
    refine hp_callV_v (H1 := H30) (As := []) (rest := []) d_M_text_49 (k_M_forgets z28) (ab_mkC s_M_forgets (Nat.le_of_ble_eq_true rfl) (Nat.le_of_ble_eq_true rfl) (Nat.le_refl 0) (Nat.le_refl 0)) (k11 154 rfl rfl) i_M_forgets v_M_forgets (by rw [(s_6).1]; exact q1) (by decide) rfl rfl (Nat.le_of_ble_eq_true rfl) ?_
    have s_7 : Sa H H30 := (s_6).tr (m_M_forgets z28)
    refine ab_aload_n d_M_text_52 rfl rfl rfl ?_
    refine ab_iconst (v := 0) d_M_text_53 (by decide) ?_
    refine hp_putI (v := 0) (f := 20) d_M_text_54 (by rw [(s_7).1]; exact q1) (by decide) rfl (by decide) (k10 13 rfl rfl) rfl rfl (fun _ => rfl) (fun _ => rfl) rfl ?_
    refine hp_gen (fun H31 eH31 => ?_)
    replace hG := bnd_s eH31 hG
    have s_8 : Sa H H31 := by rw [eH31]; exact s_7
    refine ab_aload_n d_M_text_57 rfl rfl rfl ?_
    refine ab_iconst (v := 0) d_M_text_58 (by decide) ?_
    refine hp_putI (v := 0) (f := 13) d_M_text_59 (by rw [(s_8).1]; exact q1) (by decide) rfl (by decide) (k10 6 rfl rfl) rfl rfl (fun _ => rfl) (fun _ => rfl) rfl ?_
    refine hp_gen (fun H32 eH32 => ?_)
    replace hG := bnd_s eH32 hG
    have s_9 : Sa H H32 := by rw [eH32]; exact s_8
    refine ab_aload_n d_M_text_62 rfl rfl rfl ?_
    obtain ⟨a33, e34, hF⟩ := rf_s hG; clear hG
    refine hp_getR (f := 3) d_M_text_63 (by rw [(s_9).1]; exact q1) (by decide) rfl (by decide) (k9 236 rfl rfl) rfl e34 ?_
    obtain ⟨q35, hG⟩ := ck_s hF; clear hF
    rw [(s_9).1] at q35
    refine hp_getIN (f := 29) d_M_text_66 (by rw [(s_9).1]; exact q35) (by decide) rfl (by decide) (k8 212 rfl rfl) rfl ?_
    refine ab_topi (fun x36 ex36 => ?_)
    replace hG := bnd_s ex36 hG
    exact ab_iret d_M_text_69 rfl (Nat.le_refl _) (Nat.le_refl _) (by have hr := Option.some.inj hG; subst hr; exact ⟨rfl, rfl⟩)
  · rw [if_pos q6] at hF
    refine ab_aload_n d_M_text_12 rfl rfl rfl ?_
    refine hp_getI (f := 6) d_M_text_13 (by rw [(s_2).1]; exact q1) (by decide) rfl (by decide) (k9 239 rfl rfl) rfl ?_
    refine ab_topi (fun x37 ex37 => ?_)
    replace hF := bnd_s ex37 hF
    refine ab_ineg d_M_text_16 ?_
    exact ab_iret d_M_text_17 rfl (Nat.le_refl _) (Nat.le_refl _) (by have hr := Option.some.inj hF; subst hr; exact ⟨rfl, rfl⟩)
def y_M_fault : ab_Y := (⟨"WorldEngineModel", "fault", "(I)I"⟩, prog_14_method_11_code, 2, (some FieldType.int), [])
theorem d_M_fault_0 : decode y_M_fault.2.1 0 = .ok (.aload_n 0, 1) := by decide +kernel
theorem d_M_fault_1 : decode y_M_fault.2.1 1 = .ok (.iconst 0, 1) := by decide +kernel
theorem d_M_fault_2 : decode y_M_fault.2.1 2 = .ok (.putfield 83, 3) := by decide +kernel
theorem d_M_fault_5 : decode y_M_fault.2.1 5 = .ok (.iload_n 1, 1) := by decide +kernel
theorem d_M_fault_6 : decode y_M_fault.2.1 6 = .ok (.ifCond .ne 10, 3) := by decide +kernel
theorem d_M_fault_9 : decode y_M_fault.2.1 9 = .ok (.aload_n 0, 1) := by decide +kernel
theorem d_M_fault_10 : decode y_M_fault.2.1 10 = .ok (.getfield 27, 3) := by decide +kernel
theorem d_M_fault_13 : decode y_M_fault.2.1 13 = .ok (.goto 16, 3) := by decide +kernel
theorem d_M_fault_16 : decode y_M_fault.2.1 16 = .ok (.iload_n 1, 1) := by decide +kernel
theorem d_M_fault_17 : decode y_M_fault.2.1 17 = .ok (.iconst 1, 1) := by decide +kernel
theorem d_M_fault_18 : decode y_M_fault.2.1 18 = .ok (.if_icmp .ne 10, 3) := by decide +kernel
theorem d_M_fault_21 : decode y_M_fault.2.1 21 = .ok (.aload_n 0, 1) := by decide +kernel
theorem d_M_fault_22 : decode y_M_fault.2.1 22 = .ok (.getfield 23, 3) := by decide +kernel
theorem d_M_fault_25 : decode y_M_fault.2.1 25 = .ok (.goto 4, 3) := by decide +kernel
theorem d_M_fault_28 : decode y_M_fault.2.1 28 = .ok (.iconst (-1), 1) := by decide +kernel
theorem d_M_fault_29 : decode y_M_fault.2.1 29 = .ok (.ireturn, 1) := by decide +kernel
theorem s_M_fault : ab_Stat y_M_fault 1 := ⟨(k11 161 rfl rfl), (k1 19 rfl rfl), ⟨by decide, by decide⟩, by decide +kernel⟩
theorem i_M_fault : Cond.instanceMethod y_M_fault.1 ∈ ab_T := (k11 159 rfl rfl)
theorem v_M_fault : Cond.selects "WorldEngineModel" y_M_fault.1 y_M_fault.1 ∈ ab_T := (k11 160 rfl rfl)
def F_M_fault (N : Nat) (p0 : Nat) (p1 : Int32) (H : Hp) : Option (Int32 × Hp) :=
    ck (H.sh[p0]? = some (12, 0)) <|
    bnd (H.sD p0 0 (0 : Int32)) fun H2 =>
    if p1 = (0 : Int32) then
    bnd ((H2.D p0 7)) fun x6 =>
    some (x6, H2)
    else
    if p1 = (1 : Int32) then
    bnd ((H2.D p0 6)) fun x5 =>
    some (x5, H2)
    else
    some ((-1), H2)
set_option maxRecDepth 20000 in
set_option maxHeartbeats 2000000 in
theorem m_M_fault {N : Nat} {p0 : Nat} {p1 : Int32} {H : Hp} {r : Int32 × Hp} (hF : F_M_fault N p0 p1 H = some r) : Sa H r.2 := by
  unfold F_M_fault at hF
  have hm := Sa.rf H
  obtain ⟨q7, hG⟩ := ck_s hF; clear hF
  obtain ⟨H8, eH8, hF⟩ := bnd_g hG; clear hG
  replace hm : Sa H H8 := by rw [eH8]; exact hm
  rcases ite_s hF with ⟨q_3, hG⟩ | ⟨q_3, hG⟩
  · clear hF
    obtain ⟨x10, -, hF⟩ := bnd_g hG; clear hG
    have hr := Option.some.inj hF; subst hr
    exact hm
  · clear hF
    rcases ite_s hG with ⟨q_4, hF⟩ | ⟨q_4, hF⟩
    · clear hG
      obtain ⟨x12, -, hG⟩ := bnd_g hF; clear hF
      have hr := Option.some.inj hG; subst hr
      exact hm
    · clear hG
      have hr := Option.some.inj hF; subst hr
      exact hm
set_option maxRecDepth 20000 in
set_option maxHeartbeats 2000000 in
theorem k_M_fault {N : Nat} {p0 : Nat} {p1 : Int32} {H : Hp} {r : Int32 × Hp} (hF : F_M_fault N p0 p1 H = some r) : ab_M y_M_fault { frames := 0, cells := 0, slots := 0, locals := 0 } [.ref p0, .int p1] (hpw H) (po (.returned (some (.int r.1))) r.2) := by
  unfold F_M_fault at hF
  refine ab_of2 (lv := [some (.ref p0), some (.int p1)]) 0 rfl rfl (Nat.le_of_ble_eq_true rfl) ?_
  refine ab_aload_n d_M_fault_0 rfl rfl rfl ?_
  refine ab_iconst (v := 0) d_M_fault_1 (by decide) ?_
  obtain ⟨q1, hG⟩ := ck_s hF; clear hF
  refine hp_putI (v := 0) (f := 0) d_M_fault_2 q1 (by decide) rfl (by decide) (k9 233 rfl rfl) rfl rfl (fun _ => rfl) (fun _ => rfl) rfl ?_
  refine hp_gen (fun H2 eH2 => ?_)
  replace hG := bnd_s eH2 hG
  have s_1 : Sa H H2 := by rw [eH2]; exact Sa.rf _
  refine ab_iload_n d_M_fault_5 rfl rfl ?_
  refine ab_if_ne (tgt := 16) d_M_fault_6 (by decide) (fun q3 => ?_) (fun q3 => ?_)
  · rw [if_neg q3] at hG
    refine ab_iload_n d_M_fault_16 rfl rfl ?_
    refine ab_iconst (v := 1) d_M_fault_17 (by decide) ?_
    refine ab_icmp_ne (tgt := 28) d_M_fault_18 (by decide) (fun q4 => ?_) (fun q4 => ?_)
    · rw [if_neg q4] at hG
      refine ab_iconst (v := (-1)) d_M_fault_28 (by decide) ?_
      exact ab_iret d_M_fault_29 rfl (Nat.le_refl _) (Nat.le_refl _) (by have hr := Option.some.inj hG; subst hr; exact ⟨rfl, rfl⟩)
    · rw [if_pos q4] at hG
      refine ab_aload_n d_M_fault_21 rfl rfl rfl ?_
      refine hp_getI (f := 6) d_M_fault_22 (by rw [(s_1).1]; exact q1) (by decide) rfl (by decide) (k9 239 rfl rfl) rfl ?_
      refine ab_topi (fun x5 ex5 => ?_)
      replace hG := bnd_s ex5 hG
      refine ab_goto (tgt := 29) d_M_fault_25 (by decide) ?_
      exact ab_iret d_M_fault_29 rfl (Nat.le_refl _) (Nat.le_refl _) (by have hr := Option.some.inj hG; subst hr; exact ⟨rfl, rfl⟩)
  · rw [if_pos q3] at hG
    refine ab_aload_n d_M_fault_9 rfl rfl rfl ?_
    refine hp_getI (f := 7) d_M_fault_10 (by rw [(s_1).1]; exact q1) (by decide) rfl (by decide) (k10 0 rfl rfl) rfl ?_
    refine ab_topi (fun x6 ex6 => ?_)
    replace hG := bnd_s ex6 hG
    refine ab_goto (tgt := 29) d_M_fault_13 (by decide) ?_
    exact ab_iret d_M_fault_29 rfl (Nat.le_refl _) (Nat.le_refl _) (by have hr := Option.some.inj hG; subst hr; exact ⟨rfl, rfl⟩)
def y_M_isQuiet : ab_Y := (⟨"WorldEngineModel", "isQuiet", "()Z"⟩, prog_14_method_12_code, 1, (some FieldType.boolean), [])
theorem d_M_isQuiet_0 : decode y_M_isQuiet.2.1 0 = .ok (.aload_n 0, 1) := by decide +kernel
theorem d_M_isQuiet_1 : decode y_M_isQuiet.2.1 1 = .ok (.getfield 37, 3) := by decide +kernel
theorem d_M_isQuiet_4 : decode y_M_isQuiet.2.1 4 = .ok (.getfield 145, 3) := by decide +kernel
theorem d_M_isQuiet_7 : decode y_M_isQuiet.2.1 7 = .ok (.aload_n 0, 1) := by decide +kernel
theorem d_M_isQuiet_8 : decode y_M_isQuiet.2.1 8 = .ok (.getfield 33, 3) := by decide +kernel
theorem d_M_isQuiet_11 : decode y_M_isQuiet.2.1 11 = .ok (.getfield 145, 3) := by decide +kernel
theorem d_M_isQuiet_14 : decode y_M_isQuiet.2.1 14 = .ok (.if_icmp .ne 7, 3) := by decide +kernel
theorem d_M_isQuiet_17 : decode y_M_isQuiet.2.1 17 = .ok (.iconst 1, 1) := by decide +kernel
theorem d_M_isQuiet_18 : decode y_M_isQuiet.2.1 18 = .ok (.goto 4, 3) := by decide +kernel
theorem d_M_isQuiet_21 : decode y_M_isQuiet.2.1 21 = .ok (.iconst 0, 1) := by decide +kernel
theorem d_M_isQuiet_22 : decode y_M_isQuiet.2.1 22 = .ok (.ireturn, 1) := by decide +kernel
theorem s_M_isQuiet : ab_Stat y_M_isQuiet 0 := ⟨(k11 169 rfl rfl), (k1 19 rfl rfl), ⟨by decide, by decide⟩, by decide +kernel⟩
theorem i_M_isQuiet : Cond.instanceMethod y_M_isQuiet.1 ∈ ab_T := (k11 168 rfl rfl)
theorem v_M_isQuiet : Cond.selects "WorldEngineModel" y_M_isQuiet.1 y_M_isQuiet.1 ∈ ab_T := ab_s (List.mem_of_getElem? (i := 169) rfl) rfl
def F_M_isQuiet (N : Nat) (p0 : Nat) (H : Hp) : Option (Int32 × Hp) :=
    ck (H.sh[p0]? = some (12, 0)) <|
    rf (H.P p0 9) fun a2 =>
    ck (H.sh[a2]? = some (13, 0)) <|
    bnd ((H.D a2 0)) fun x5 =>
    rf (H.P p0 8) fun a6 =>
    ck (H.sh[a6]? = some (13, 0)) <|
    bnd ((H.D a6 0)) fun x9 =>
    if x5 = x9 then
    some (1, H)
    else
    some (0, H)
set_option maxRecDepth 20000 in
set_option maxHeartbeats 2000000 in
theorem m_M_isQuiet {N : Nat} {p0 : Nat} {H : Hp} {r : Int32 × Hp} (hF : F_M_isQuiet N p0 H = some r) : Sa H r.2 := by
  unfold F_M_isQuiet at hF
  have hm := Sa.rf H
  obtain ⟨q11, hG⟩ := ck_s hF; clear hF
  obtain ⟨a12, e13, hF⟩ := rf_s hG; clear hG
  obtain ⟨q14, hG⟩ := ck_s hF; clear hF
  obtain ⟨x15, -, hF⟩ := bnd_g hG; clear hG
  obtain ⟨a16, e17, hG⟩ := rf_s hF; clear hF
  obtain ⟨q18, hF⟩ := ck_s hG; clear hG
  obtain ⟨x19, -, hG⟩ := bnd_g hF; clear hF
  rcases ite_s hG with ⟨q_1, hF⟩ | ⟨q_1, hF⟩
  · clear hG
    have hr := Option.some.inj hF; subst hr
    exact hm
  · clear hG
    have hr := Option.some.inj hF; subst hr
    exact hm
set_option maxRecDepth 20000 in
set_option maxHeartbeats 2000000 in
theorem k_M_isQuiet {N : Nat} {p0 : Nat} {H : Hp} {r : Int32 × Hp} (hF : F_M_isQuiet N p0 H = some r) : ab_M y_M_isQuiet { frames := 0, cells := 0, slots := 0, locals := 0 } [.ref p0] (hpw H) (po (.returned (some (.int r.1))) r.2) := by
  unfold F_M_isQuiet at hF
  refine ab_of2 (lv := [some (.ref p0)]) 0 rfl rfl (Nat.le_of_ble_eq_true rfl) ?_
  refine ab_aload_n d_M_isQuiet_0 rfl rfl rfl ?_
  obtain ⟨q1, hG⟩ := ck_s hF; clear hF
  obtain ⟨a2, e3, hF⟩ := rf_s hG; clear hG
  refine hp_getR (f := 9) d_M_isQuiet_1 q1 (by decide) rfl (by decide) (k10 2 rfl rfl) rfl e3 ?_
  obtain ⟨q4, hG⟩ := ck_s hF; clear hF
  refine hp_getIN (f := 0) d_M_isQuiet_4 q4 (by decide) rfl (by decide) (k9 89 rfl rfl) rfl ?_
  refine ab_topi (fun x5 ex5 => ?_)
  replace hG := bnd_s ex5 hG
  refine ab_aload_n d_M_isQuiet_7 rfl rfl rfl ?_
  obtain ⟨a6, e7, hF⟩ := rf_s hG; clear hG
  refine hp_getR (f := 8) d_M_isQuiet_8 q1 (by decide) rfl (by decide) (k10 1 rfl rfl) rfl e7 ?_
  obtain ⟨q8, hG⟩ := ck_s hF; clear hF
  refine hp_getIN (f := 0) d_M_isQuiet_11 q8 (by decide) rfl (by decide) (k9 89 rfl rfl) rfl ?_
  refine ab_topi (fun x9 ex9 => ?_)
  replace hG := bnd_s ex9 hG
  refine ab_icmp_ne (tgt := 21) d_M_isQuiet_14 (by decide) (fun q10 => ?_) (fun q10 => ?_)
  · rw [if_neg q10] at hG
    refine ab_iconst (v := 0) d_M_isQuiet_21 (by decide) ?_
    exact ab_zret d_M_isQuiet_22 rfl rfl (Nat.le_refl _) (Nat.le_refl _) (by have hr := Option.some.inj hG; subst hr; exact ⟨rfl, rfl⟩)
  · rw [if_pos q10] at hG
    refine ab_iconst (v := 1) d_M_isQuiet_17 (by decide) ?_
    refine ab_goto (tgt := 22) d_M_isQuiet_18 (by decide) ?_
    exact ab_zret d_M_isQuiet_22 rfl rfl (Nat.le_refl _) (Nat.le_refl _) (by have hr := Option.some.inj hG; subst hr; exact ⟨rfl, rfl⟩)
def y_MText_thing : ab_Y := (⟨"WorldEngineModel$Text", "thing", "(LWorldEngineModel$Text;II)I"⟩, prog_16_method_12_code, 5, (some FieldType.int), [])
theorem d_MText_thing_0 : decode y_MText_thing.2.1 0 = .ok (.iconst 0, 1) := by decide +kernel
theorem d_MText_thing_1 : decode y_MText_thing.2.1 1 = .ok (.istore 4, 2) := by decide +kernel
theorem d_MText_thing_3 : decode y_MText_thing.2.1 3 = .ok (.iload 4, 2) := by decide +kernel
theorem d_MText_thing_5 : decode y_MText_thing.2.1 5 = .ok (.aload_n 0, 1) := by decide +kernel
theorem d_MText_thing_6 : decode y_MText_thing.2.1 6 = .ok (.getfield 167, 3) := by decide +kernel
theorem d_MText_thing_9 : decode y_MText_thing.2.1 9 = .ok (.if_icmp .ge 44, 3) := by decide +kernel
theorem d_MText_thing_12 : decode y_MText_thing.2.1 12 = .ok (.aload_n 0, 1) := by decide +kernel
theorem d_MText_thing_13 : decode y_MText_thing.2.1 13 = .ok (.getfield 38, 3) := by decide +kernel
theorem d_MText_thing_16 : decode y_MText_thing.2.1 16 = .ok (.iload 4, 2) := by decide +kernel
theorem d_MText_thing_18 : decode y_MText_thing.2.1 18 = .ok (.iaload, 1) := by decide +kernel
theorem d_MText_thing_19 : decode y_MText_thing.2.1 19 = .ok (.iload_n 3, 1) := by decide +kernel
theorem d_MText_thing_20 : decode y_MText_thing.2.1 20 = .ok (.if_icmp .ne 27, 3) := by decide +kernel
theorem d_MText_thing_23 : decode y_MText_thing.2.1 23 = .ok (.aload_n 0, 1) := by decide +kernel
theorem d_MText_thing_24 : decode y_MText_thing.2.1 24 = .ok (.aload_n 0, 1) := by decide +kernel
theorem d_MText_thing_25 : decode y_MText_thing.2.1 25 = .ok (.getfield 35, 3) := by decide +kernel
theorem d_MText_thing_28 : decode y_MText_thing.2.1 28 = .ok (.iload 4, 2) := by decide +kernel
theorem d_MText_thing_30 : decode y_MText_thing.2.1 30 = .ok (.iaload, 1) := by decide +kernel
theorem d_MText_thing_31 : decode y_MText_thing.2.1 31 = .ok (.aload_n 1, 1) := by decide +kernel
theorem d_MText_thing_32 : decode y_MText_thing.2.1 32 = .ok (.iload_n 2, 1) := by decide +kernel
theorem d_MText_thing_33 : decode y_MText_thing.2.1 33 = .ok (.invokevirtual 170, 3) := by decide +kernel
theorem d_MText_thing_36 : decode y_MText_thing.2.1 36 = .ok (.ifCond .eq 11, 3) := by decide +kernel
theorem d_MText_thing_39 : decode y_MText_thing.2.1 39 = .ok (.aload_n 0, 1) := by decide +kernel
theorem d_MText_thing_40 : decode y_MText_thing.2.1 40 = .ok (.getfield 41, 3) := by decide +kernel
theorem d_MText_thing_43 : decode y_MText_thing.2.1 43 = .ok (.iload 4, 2) := by decide +kernel
theorem d_MText_thing_45 : decode y_MText_thing.2.1 45 = .ok (.iaload, 1) := by decide +kernel
theorem d_MText_thing_46 : decode y_MText_thing.2.1 46 = .ok (.ireturn, 1) := by decide +kernel
theorem d_MText_thing_47 : decode y_MText_thing.2.1 47 = .ok (.iinc 4 1, 3) := by decide +kernel
theorem d_MText_thing_50 : decode y_MText_thing.2.1 50 = .ok (.goto (-47), 3) := by decide +kernel
theorem d_MText_thing_53 : decode y_MText_thing.2.1 53 = .ok (.iconst (-1), 1) := by decide +kernel
theorem d_MText_thing_54 : decode y_MText_thing.2.1 54 = .ok (.ireturn, 1) := by decide +kernel
theorem s_MText_thing : ab_Stat y_MText_thing 3 := ⟨(k11 177 rfl rfl), (k1 20 rfl rfl), ⟨by decide, by decide⟩, by decide +kernel⟩
theorem i_MText_thing : Cond.instanceMethod y_MText_thing.1 ∈ ab_T := (k11 175 rfl rfl)
theorem v_MText_thing : Cond.selects "WorldEngineModel$Text" y_MText_thing.1 y_MText_thing.1 ∈ ab_T := (k11 176 rfl rfl)
def B_MText_thing_47 (N : Nat) (p0 : Nat) (p1 : Nat) (p2 : Int32) (p3 : Int32) (kq3 : Int32 → Hp → Option (Int32 × Hp)) (l4 : Int32) (H : Hp) : Option (Int32 × Hp) :=
    kq3 (l4 + 1) H
set_option maxRecDepth 20000 in
set_option maxHeartbeats 2000000 in
theorem mB_MText_thing_47 {N : Nat} {p0 : Nat} {p1 : Nat} {p2 : Int32} {p3 : Int32} {kq3 : Int32 → Hp → Option (Int32 × Hp)} (hm3 : ∀ (l4 : Int32) (H : Hp) (r : Int32 × Hp), kq3 l4 H = some r → Sa H r.2) {l4 : Int32} {H : Hp} {r : Int32 × Hp} (hF : B_MText_thing_47 N p0 p1 p2 p3 kq3 l4 H = some r) : Sa H r.2 := by
  unfold B_MText_thing_47 at hF
  have hm := Sa.rf H
  exact hm.tr (hm3 (l4 + 1) H r hF)
set_option maxRecDepth 20000 in
set_option maxHeartbeats 2000000 in
theorem kB_MText_thing_47 {N : Nat} {p0 : Nat} {p1 : Nat} {p2 : Int32} {p3 : Int32} {kq3 : Int32 → Hp → Option (Int32 × Hp)} (hm3 : ∀ (l4 : Int32) (H : Hp) (r : Int32 × Hp), kq3 l4 H = some r → Sa H r.2) (hk3 : ∀ (l4 : Int32) (H : Hp) (r : Int32 × Hp), kq3 l4 H = some r → ab_V y_MText_thing { frames := 1, cells := 0, slots := 0, locals := 25 } (po (.returned (some (.int r.1))) r.2) 0 0 0 0 3 [some (.ref p0), some (.ref p1), some (.int p2), some (.int p3), some (.int l4)] [] (hpw H)) {l4 : Int32} {H : Hp} {r : Int32 × Hp} (hF : B_MText_thing_47 N p0 p1 p2 p3 kq3 l4 H = some r) : ab_V y_MText_thing { frames := 1, cells := 0, slots := 0, locals := 25 } (po (.returned (some (.int r.1))) r.2) 0 0 0 0 47 [some (.ref p0), some (.ref p1), some (.int p2), some (.int p3), some (.int l4)] [] (hpw H) := by
  unfold B_MText_thing_47 at hF
  refine ab_iinc (v := l4 + 1) (lv' := [some (.ref p0), some (.ref p1), some (.int p2), some (.int p3), some (.int (l4 + 1))]) d_MText_thing_47 rfl rfl (by decide) rfl ?_
  refine ab_goto (tgt := 3) d_MText_thing_50 (by decide) ?_
  exact hk3 (l4 + 1) H r hF
def B_MText_thing_3 (N : Nat) (p0 : Nat) (p1 : Nat) (p2 : Int32) (p3 : Int32) : Nat → Int32 → Hp → Option (Int32 × Hp)
  | 0, _, _ => none
  | n + 1, l4, H =>
    ck (H.sh[p0]? = some (14, 0)) <|
    bnd ((H.D p0 12)) fun x2 =>
    if x2 ≤ l4 then
    some ((-1), H)
    else
    rf (H.P p0 14) fun a4 =>
    ar H 100 a4 fun n6 =>
    ck (inb l4 n6) <|
    bnd ((H.D a4 (l4).toNatClampNeg)) fun x9 =>
    if x9 = p3 then
    rf (H.P p0 13) fun a11 =>
    ar H 100 a11 fun n13 =>
    ck (inb l4 n13) <|
    bnd ((H.D a11 (l4).toNatClampNeg)) fun x16 =>
    bC (F_MText_isSame N p0 x16 p1 p2 H) fun v18 H19 =>
    if v18 = (0 : Int32) then
    B_MText_thing_47 N p0 p1 p2 p3 (fun l4 H => B_MText_thing_3 N p0 p1 p2 p3 n l4 H) l4 H19
    else
    rf (H19.P p0 15) fun a21 =>
    ar H19 100 a21 fun n23 =>
    ck (inb l4 n23) <|
    bnd ((H19.D a21 (l4).toNatClampNeg)) fun x26 =>
    some (x26, H19)
    else
    B_MText_thing_47 N p0 p1 p2 p3 (fun l4 H => B_MText_thing_3 N p0 p1 p2 p3 n l4 H) l4 H
termination_by structural n => n
set_option maxRecDepth 20000 in
set_option maxHeartbeats 2000000 in
theorem mB_MText_thing_3 {N : Nat} {p0 : Nat} {p1 : Nat} {p2 : Int32} {p3 : Int32} : ∀ (n : Nat) (l4 : Int32) (H : Hp) (r : Int32 × Hp), B_MText_thing_3 N p0 p1 p2 p3 n l4 H = some r → Sa H r.2 := by
  intro n
  induction n with
  | zero => intro l4 H r hF; rw [B_MText_thing_3] at hF; cases hF
  | succ n ih =>
    intro l4 H r hF
    rw [B_MText_thing_3] at hF
    have hm := Sa.rf H
    obtain ⟨q27, hG⟩ := ck_s hF; clear hF
    obtain ⟨x28, -, hF⟩ := bnd_g hG; clear hG
    rcases ite_s hF with ⟨q_2, hG⟩ | ⟨q_2, hG⟩
    · clear hF
      have hr := Option.some.inj hG; subst hr
      exact hm
    · clear hF
      obtain ⟨a30, e31, hF⟩ := rf_s hG; clear hG
      obtain ⟨n32, q33, hG⟩ := ar_s hF; clear hF
      obtain ⟨q34, hF⟩ := ck_s hG; clear hG
      obtain ⟨x35, -, hG⟩ := bnd_g hF; clear hF
      rcases ite_s hG with ⟨q_3, hF⟩ | ⟨q_3, hF⟩
      · clear hG
        obtain ⟨a37, e38, hG⟩ := rf_s hF; clear hF
        obtain ⟨n39, q40, hF⟩ := ar_s hG; clear hG
        obtain ⟨q41, hG⟩ := ck_s hF; clear hF
        obtain ⟨x42, -, hF⟩ := bnd_g hG; clear hG
        obtain ⟨v44, H45, z43, hG⟩ := bC_s hF; clear hF
        replace hm : Sa H H45 := hm.tr (m_MText_isSame z43)
        rcases ite_s hG with ⟨q_5, hF⟩ | ⟨q_5, hF⟩
        · clear hG
          exact hm.tr (mB_MText_thing_47 ih hF)
        · clear hG
          obtain ⟨a47, e48, hG⟩ := rf_s hF; clear hF
          obtain ⟨n49, q50, hF⟩ := ar_s hG; clear hG
          obtain ⟨q51, hG⟩ := ck_s hF; clear hF
          obtain ⟨x52, -, hF⟩ := bnd_g hG; clear hG
          have hr := Option.some.inj hF; subst hr
          exact hm
      · clear hG
        exact hm.tr (mB_MText_thing_47 ih hF)
set_option maxRecDepth 20000 in
set_option maxHeartbeats 2000000 in
theorem kB_MText_thing_3 {N : Nat} {p0 : Nat} {p1 : Nat} {p2 : Int32} {p3 : Int32} : ∀ (n : Nat) (l4 : Int32) (H : Hp) (r : Int32 × Hp), B_MText_thing_3 N p0 p1 p2 p3 n l4 H = some r → ab_V y_MText_thing { frames := 1, cells := 0, slots := 0, locals := 25 } (po (.returned (some (.int r.1))) r.2) 0 0 0 0 3 [some (.ref p0), some (.ref p1), some (.int p2), some (.int p3), some (.int l4)] [] (hpw H) := by
  intro n
  induction n with
  | zero => intro l4 H r hF; rw [B_MText_thing_3] at hF; cases hF
  | succ n ih =>
    intro l4 H r hF
    rw [B_MText_thing_3] at hF
    refine ab_iload d_MText_thing_3 rfl ?_
    refine ab_aload_n d_MText_thing_5 rfl rfl rfl ?_
    obtain ⟨q1, hG⟩ := ck_s hF; clear hF
    refine hp_getI (f := 12) d_MText_thing_6 q1 (by decide) rfl (by decide) (k8 176 rfl rfl) rfl ?_
    refine ab_topi (fun x2 ex2 => ?_)
    replace hG := bnd_s ex2 hG
    refine ab_icmp_ge (tgt := 53) d_MText_thing_9 (by decide) (fun q3 => ?_) (fun q3 => ?_)
    · rw [if_pos q3] at hG
      refine ab_iconst (v := (-1)) d_MText_thing_53 (by decide) ?_
      exact ab_iret d_MText_thing_54 rfl (Nat.le_refl _) (Nat.le_refl _) (by have hr := Option.some.inj hG; subst hr; exact ⟨rfl, rfl⟩)
    · rw [if_neg q3] at hG
      refine ab_aload_n d_MText_thing_12 rfl rfl rfl ?_
      obtain ⟨a4, e5, hF⟩ := rf_s hG; clear hG
      refine hp_getR (f := 14) d_MText_thing_13 q1 (by decide) rfl (by decide) (k8 178 rfl rfl) rfl e5 ?_
      refine ab_iload d_MText_thing_16 rfl ?_
      obtain ⟨n6, q7, hG⟩ := ar_s hF; clear hF
      obtain ⟨q8, hF⟩ := ck_s hG; clear hG
      refine hp_iald d_MText_thing_18 tI q7 q8 ?_
      refine ab_topi (fun x9 ex9 => ?_)
      replace hF := bnd_s ex9 hF
      refine ab_iload_n d_MText_thing_19 rfl rfl ?_
      refine ab_icmp_ne (tgt := 47) d_MText_thing_20 (by decide) (fun q10 => ?_) (fun q10 => ?_)
      · rw [if_neg q10] at hF
        exact kB_MText_thing_47 (mB_MText_thing_3 n) ih hF
      · rw [if_pos q10] at hF
        refine ab_aload_n d_MText_thing_23 rfl rfl rfl ?_
        refine ab_aload_n d_MText_thing_24 rfl rfl rfl ?_
        obtain ⟨a11, e12, hG⟩ := rf_s hF; clear hF
        refine hp_getR (f := 13) d_MText_thing_25 q1 (by decide) rfl (by decide) (k8 177 rfl rfl) rfl e12 ?_
        refine ab_iload d_MText_thing_28 rfl ?_
        obtain ⟨n13, q14, hF⟩ := ar_s hG; clear hG
        obtain ⟨q15, hG⟩ := ck_s hF; clear hF
        refine hp_iald d_MText_thing_30 tI q14 q15 ?_
        refine ab_topi (fun x16 ex16 => ?_)
        replace hG := bnd_s ex16 hG
        refine ab_aload_n d_MText_thing_31 rfl rfl rfl ?_
        refine ab_iload_n d_MText_thing_32 rfl rfl ?_
        obtain ⟨v18, H19, z17, hF⟩ := bC_s hG; clear hG
        refine hp_callV_a (v := .int v18) (H1 := H19) (As := [.int x16, .ref p1, .int p2]) (rest := []) d_MText_thing_33 (k_MText_isSame z17) (ab_mkC s_MText_isSame (Nat.le_of_ble_eq_true rfl) (Nat.le_of_ble_eq_true rfl) (Nat.le_refl 0) (Nat.le_refl 0)) (k10 188 rfl rfl) i_MText_isSame v_MText_isSame q1 (by decide) rfl rfl (Nat.le_of_ble_eq_true rfl) ?_
        have s_1 : Sa H H19 := (m_MText_isSame z17)
        refine ab_if_eq (tgt := 47) d_MText_thing_36 (by decide) (fun q20 => ?_) (fun q20 => ?_)
        · rw [if_pos q20] at hF
          exact kB_MText_thing_47 (mB_MText_thing_3 n) ih hF
        · rw [if_neg q20] at hF
          refine ab_aload_n d_MText_thing_39 rfl rfl rfl ?_
          obtain ⟨a21, e22, hG⟩ := rf_s hF; clear hF
          refine hp_getR (f := 15) d_MText_thing_40 (by rw [(s_1).1]; exact q1) (by decide) rfl (by decide) (k8 179 rfl rfl) rfl e22 ?_
          refine ab_iload d_MText_thing_43 rfl ?_
          obtain ⟨n23, q24, hF⟩ := ar_s hG; clear hG
          rw [(s_1).1] at q24
          obtain ⟨q25, hG⟩ := ck_s hF; clear hF
          refine hp_iald d_MText_thing_45 tI (by rw [(s_1).1]; exact q24) q25 ?_
          refine ab_topi (fun x26 ex26 => ?_)
          replace hG := bnd_s ex26 hG
          exact ab_iret d_MText_thing_46 rfl (Nat.le_refl _) (Nat.le_refl _) (by have hr := Option.some.inj hG; subst hr; exact ⟨rfl, rfl⟩)
def F_MText_thing (N : Nat) (p0 : Nat) (p1 : Nat) (p2 : Int32) (p3 : Int32) (H : Hp) : Option (Int32 × Hp) :=
    B_MText_thing_3 N p0 p1 p2 p3 N 0 H
set_option maxRecDepth 20000 in
set_option maxHeartbeats 2000000 in
theorem m_MText_thing {N : Nat} {p0 : Nat} {p1 : Nat} {p2 : Int32} {p3 : Int32} {H : Hp} {r : Int32 × Hp} (hF : F_MText_thing N p0 p1 p2 p3 H = some r) : Sa H r.2 := by
  unfold F_MText_thing at hF
  have hm := Sa.rf H
  exact hm.tr (mB_MText_thing_3 N 0 H r hF)
set_option maxRecDepth 20000 in
set_option maxHeartbeats 2000000 in
theorem k_MText_thing {N : Nat} {p0 : Nat} {p1 : Nat} {p2 : Int32} {p3 : Int32} {H : Hp} {r : Int32 × Hp} (hF : F_MText_thing N p0 p1 p2 p3 H = some r) : ab_M y_MText_thing { frames := 1, cells := 0, slots := 0, locals := 25 } [.ref p0, .ref p1, .int p2, .int p3] (hpw H) (po (.returned (some (.int r.1))) r.2) := by
  unfold F_MText_thing at hF
  refine ab_of2 (lv := [some (.ref p0), some (.ref p1), some (.int p2), some (.int p3), none]) 1 rfl rfl (Nat.le_of_ble_eq_true rfl) ?_
  refine ab_iconst (v := 0) d_MText_thing_0 (by decide) ?_
  refine ab_istore (lv' := [some (.ref p0), some (.ref p1), some (.int p2), some (.int p3), some (.int 0)]) d_MText_thing_1 (by decide) rfl ?_
  exact kB_MText_thing_3 N 0 H r hF
