def y_M_bend : ab_Y := (⟨"WorldEngineModel", "bend", "(II)Z"⟩, prog_14_method_47_code, 3, (some FieldType.boolean), [])
theorem d_M_bend_0 : decode y_M_bend.2.1 0 = .ok (.aload_n 0, 1) := by decide +kernel
theorem d_M_bend_1 : decode y_M_bend.2.1 1 = .ok (.iconst 0, 1) := by decide +kernel
theorem d_M_bend_2 : decode y_M_bend.2.1 2 = .ok (.putfield 83, 3) := by decide +kernel
theorem d_M_bend_5 : decode y_M_bend.2.1 5 = .ok (.iload_n 1, 1) := by decide +kernel
theorem d_M_bend_6 : decode y_M_bend.2.1 6 = .ok (.i2l, 1) := by decide +kernel
theorem d_M_bend_7 : decode y_M_bend.2.1 7 = .ok (.lconst 0, 1) := by decide +kernel
theorem d_M_bend_8 : decode y_M_bend.2.1 8 = .ok (.aload_n 0, 1) := by decide +kernel
theorem d_M_bend_9 : decode y_M_bend.2.1 9 = .ok (.getfield 323, 3) := by decide +kernel
theorem d_M_bend_12 : decode y_M_bend.2.1 12 = .ok (.iconst 1, 1) := by decide +kernel
theorem d_M_bend_13 : decode y_M_bend.2.1 13 = .ok (.isub, 1) := by decide +kernel
theorem d_M_bend_14 : decode y_M_bend.2.1 14 = .ok (.i2l, 1) := by decide +kernel
theorem d_M_bend_15 : decode y_M_bend.2.1 15 = .ok (.invokestatic 99, 3) := by decide +kernel
theorem d_M_bend_18 : decode y_M_bend.2.1 18 = .ok (.ifCond .ne 5, 3) := by decide +kernel
theorem d_M_bend_21 : decode y_M_bend.2.1 21 = .ok (.iconst 0, 1) := by decide +kernel
theorem d_M_bend_22 : decode y_M_bend.2.1 22 = .ok (.ireturn, 1) := by decide +kernel
theorem d_M_bend_23 : decode y_M_bend.2.1 23 = .ok (.aload_n 0, 1) := by decide +kernel
theorem d_M_bend_24 : decode y_M_bend.2.1 24 = .ok (.getfield 74, 3) := by decide +kernel
theorem d_M_bend_27 : decode y_M_bend.2.1 27 = .ok (.iload_n 1, 1) := by decide +kernel
theorem d_M_bend_28 : decode y_M_bend.2.1 28 = .ok (.dup2, 1) := by decide +kernel
theorem d_M_bend_29 : decode y_M_bend.2.1 29 = .ok (.baload, 1) := by decide +kernel
theorem d_M_bend_30 : decode y_M_bend.2.1 30 = .ok (.iload_n 2, 1) := by decide +kernel
theorem d_M_bend_31 : decode y_M_bend.2.1 31 = .ok (.i2b, 1) := by decide +kernel
theorem d_M_bend_32 : decode y_M_bend.2.1 32 = .ok (.ixor, 1) := by decide +kernel
theorem d_M_bend_33 : decode y_M_bend.2.1 33 = .ok (.i2b, 1) := by decide +kernel
theorem d_M_bend_34 : decode y_M_bend.2.1 34 = .ok (.bastore, 1) := by decide +kernel
theorem d_M_bend_35 : decode y_M_bend.2.1 35 = .ok (.iconst 1, 1) := by decide +kernel
theorem d_M_bend_36 : decode y_M_bend.2.1 36 = .ok (.ireturn, 1) := by decide +kernel
theorem s_M_bend : ab_Stat y_M_bend 2 := ⟨(k13 43 rfl rfl), (k1 19 rfl rfl), ⟨by decide, by decide⟩, by decide +kernel⟩
theorem i_M_bend : Cond.instanceMethod y_M_bend.1 ∈ ab_T := (k13 41 rfl rfl)
theorem v_M_bend : Cond.selects "WorldEngineModel" y_M_bend.1 y_M_bend.1 ∈ ab_T := (k13 42 rfl rfl)
def F_M_bend (N : Nat) (p0 : Nat) (p1 : Int32) (p2 : Int32) (H : Hp) : Option (Int32 × Hp) :=
    ck (H.sh[p0]? = some (12, 0)) <|
    bnd (H.sD p0 0 (0 : Int32)) fun H2 =>
    bnd ((H2.D p0 22)) fun x3 =>
    bC (F_M_in N ((p1 : Int32).toInt64) (0 : Int64) (((x3 - (1 : Int32)) : Int32).toInt64) H2) fun v5 H6 =>
    if v5 = (0 : Int32) then
    some (0, H6)
    else
    rf (H6.P p0 21) fun a8 =>
    ar H6 101 a8 fun n10 =>
    ck (inb p1 n10) <|
    bnd ((H6.D a8 (p1).toNatClampNeg)) fun x13 =>
    ck (inb p1 n10) <|
    bnd (H6.sD a8 (p1).toNatClampNeg (vp_nar .byte (((x13 ^^^ ((p2 : Int32).toInt8.toInt32)) : Int32).toInt8.toInt32))) fun H15 =>
    some (1, H15)
set_option maxRecDepth 20000 in
set_option maxHeartbeats 2000000 in
theorem m_M_bend {N : Nat} {p0 : Nat} {p1 : Int32} {p2 : Int32} {H : Hp} {r : Int32 × Hp} (hF : F_M_bend N p0 p1 p2 H = some r) : Sa H r.2 := by
  unfold F_M_bend at hF
  have hm := Sa.rf H
  obtain ⟨q16, hG⟩ := ck_s hF; clear hF
  obtain ⟨H17, eH17, hF⟩ := bnd_g hG; clear hG
  replace hm : Sa H H17 := by rw [eH17]; exact hm
  obtain ⟨x18, -, hG⟩ := bnd_g hF; clear hF
  obtain ⟨v20, H21, z19, hF⟩ := bC_s hG; clear hG
  replace hm : Sa H H21 := hm.tr (m_M_in z19)
  rcases ite_s hF with ⟨q_6, hG⟩ | ⟨q_6, hG⟩
  · clear hF
    have hr := Option.some.inj hG; subst hr
    exact hm
  · clear hF
    obtain ⟨a23, e24, hF⟩ := rf_s hG; clear hG
    obtain ⟨n25, q26, hG⟩ := ar_s hF; clear hF
    obtain ⟨q27, hF⟩ := ck_s hG; clear hG
    obtain ⟨x28, -, hG⟩ := bnd_g hF; clear hF
    obtain ⟨q29, hF⟩ := ck_s hG; clear hG
    obtain ⟨H30, eH30, hG⟩ := bnd_g hF; clear hF
    replace hm : Sa H H30 := by rw [eH30]; exact hm
    have hr := Option.some.inj hG; subst hr
    exact hm
set_option maxRecDepth 20000 in
set_option maxHeartbeats 2000000 in
theorem k_M_bend {N : Nat} {p0 : Nat} {p1 : Int32} {p2 : Int32} {H : Hp} {r : Int32 × Hp} (hF : F_M_bend N p0 p1 p2 H = some r) : ab_M y_M_bend { frames := 1, cells := 0, slots := 0, locals := 25 } [.ref p0, .int p1, .int p2] (hpw H) (po (.returned (some (.int r.1))) r.2) := by
  unfold F_M_bend at hF
  refine ab_of2 (lv := [some (.ref p0), some (.int p1), some (.int p2)]) 0 rfl rfl (Nat.le_of_ble_eq_true rfl) ?_
  refine ab_aload_n d_M_bend_0 rfl rfl rfl ?_
  refine ab_iconst (v := 0) d_M_bend_1 (by decide) ?_
  obtain ⟨q1, hG⟩ := ck_s hF; clear hF
  refine hp_putI (v := 0) (f := 0) d_M_bend_2 q1 (by decide) rfl (by decide) (k9 233 rfl rfl) rfl rfl (fun _ => rfl) (fun _ => rfl) rfl ?_
  refine hp_gen (fun H2 eH2 => ?_)
  replace hG := bnd_s eH2 hG
  have s_1 : Sa H H2 := by rw [eH2]; exact Sa.rf _
  refine ab_iload_n d_M_bend_5 rfl rfl ?_
  refine ab_i2l d_M_bend_6 ?_
  refine ab_lconst (v := 0) d_M_bend_7 (by decide) ?_
  refine ab_aload_n d_M_bend_8 rfl rfl rfl ?_
  refine hp_getI (f := 22) d_M_bend_9 (by rw [(s_1).1]; exact q1) (by decide) rfl (by decide) (k10 15 rfl rfl) rfl ?_
  refine ab_topi (fun x3 ex3 => ?_)
  replace hG := bnd_s ex3 hG
  refine ab_iconst (v := 1) d_M_bend_12 (by decide) ?_
  refine ab_isub d_M_bend_13 ?_
  refine ab_i2l d_M_bend_14 ?_
  obtain ⟨v5, H6, z4, hF⟩ := bC_s hG; clear hG
  refine hp_callS_a (v := .int v5) (H1 := H6) (As := [.long ((p1 : Int32).toInt64), .long 0, .long (((x3 - (1 : Int32)) : Int32).toInt64)]) (rest := []) d_M_bend_15 (k_M_in z4) (ab_mkC s_M_in (Nat.le_of_ble_eq_true rfl) (Nat.le_of_ble_eq_true rfl) (Nat.le_refl 0) (Nat.le_refl 0)) (k10 93 rfl rfl) t_M_in rfl (Nat.le_of_ble_eq_true rfl) ?_
  have s_2 : Sa H H6 := (s_1).tr (m_M_in z4)
  refine ab_if_ne (tgt := 23) d_M_bend_18 (by decide) (fun q7 => ?_) (fun q7 => ?_)
  · rw [if_neg q7] at hF
    refine ab_aload_n d_M_bend_23 rfl rfl rfl ?_
    obtain ⟨a8, e9, hG⟩ := rf_s hF; clear hF
    refine hp_getR (f := 21) d_M_bend_24 (by rw [(s_2).1]; exact q1) (by decide) rfl (by decide) (k10 14 rfl rfl) rfl e9 ?_
    refine ab_iload_n d_M_bend_27 rfl rfl ?_
    refine ab_dup2_11 d_M_bend_28 rfl rfl ?_
    obtain ⟨n10, q11, hF⟩ := ar_s hG; clear hG
    rw [(s_2).1] at q11
    obtain ⟨q12, hG⟩ := ck_s hF; clear hF
    refine hp_bald d_M_bend_29 tB (by rw [(s_2).1]; exact q11) q12 ?_
    refine ab_topi (fun x13 ex13 => ?_)
    replace hG := bnd_s ex13 hG
    refine ab_iload_n d_M_bend_30 rfl rfl ?_
    refine ab_i2b d_M_bend_31 ?_
    refine ab_ixor d_M_bend_32 ?_
    refine ab_i2b d_M_bend_33 ?_
    obtain ⟨q14, hF⟩ := ck_s hG; clear hG
    refine hp_bast d_M_bend_34 tB (by rw [(s_2).1]; exact q11) q14 ?_
    refine hp_gen (fun H15 eH15 => ?_)
    replace hF := bnd_s eH15 hF
    have s_3 : Sa H H15 := by rw [eH15]; exact s_2
    refine ab_iconst (v := 1) d_M_bend_35 (by decide) ?_
    exact ab_zret d_M_bend_36 rfl rfl (Nat.le_refl _) (Nat.le_refl _) (by have hr := Option.some.inj hF; subst hr; exact ⟨rfl, rfl⟩)
  · rw [if_pos q7] at hF
    refine ab_iconst (v := 0) d_M_bend_21 (by decide) ?_
    exact ab_zret d_M_bend_22 rfl rfl (Nat.le_refl _) (Nat.le_refl _) (by have hr := Option.some.inj hF; subst hr; exact ⟨rfl, rfl⟩)
def y_M_cut : ab_Y := (⟨"WorldEngineModel", "cut", "(I)Z"⟩, prog_14_method_48_code, 2, (some FieldType.boolean), [])
theorem d_M_cut_0 : decode y_M_cut.2.1 0 = .ok (.aload_n 0, 1) := by decide +kernel
theorem d_M_cut_1 : decode y_M_cut.2.1 1 = .ok (.iconst 0, 1) := by decide +kernel
theorem d_M_cut_2 : decode y_M_cut.2.1 2 = .ok (.putfield 83, 3) := by decide +kernel
theorem d_M_cut_5 : decode y_M_cut.2.1 5 = .ok (.iload_n 1, 1) := by decide +kernel
theorem d_M_cut_6 : decode y_M_cut.2.1 6 = .ok (.i2l, 1) := by decide +kernel
theorem d_M_cut_7 : decode y_M_cut.2.1 7 = .ok (.lconst 0, 1) := by decide +kernel
theorem d_M_cut_8 : decode y_M_cut.2.1 8 = .ok (.aload_n 0, 1) := by decide +kernel
theorem d_M_cut_9 : decode y_M_cut.2.1 9 = .ok (.getfield 323, 3) := by decide +kernel
theorem d_M_cut_12 : decode y_M_cut.2.1 12 = .ok (.i2l, 1) := by decide +kernel
theorem d_M_cut_13 : decode y_M_cut.2.1 13 = .ok (.invokestatic 99, 3) := by decide +kernel
theorem d_M_cut_16 : decode y_M_cut.2.1 16 = .ok (.ifCond .ne 5, 3) := by decide +kernel
theorem d_M_cut_19 : decode y_M_cut.2.1 19 = .ok (.iconst 0, 1) := by decide +kernel
theorem d_M_cut_20 : decode y_M_cut.2.1 20 = .ok (.ireturn, 1) := by decide +kernel
theorem d_M_cut_21 : decode y_M_cut.2.1 21 = .ok (.aload_n 0, 1) := by decide +kernel
theorem d_M_cut_22 : decode y_M_cut.2.1 22 = .ok (.iload_n 1, 1) := by decide +kernel
theorem d_M_cut_23 : decode y_M_cut.2.1 23 = .ok (.putfield 323, 3) := by decide +kernel
theorem d_M_cut_26 : decode y_M_cut.2.1 26 = .ok (.iconst 1, 1) := by decide +kernel
theorem d_M_cut_27 : decode y_M_cut.2.1 27 = .ok (.ireturn, 1) := by decide +kernel
theorem s_M_cut : ab_Stat y_M_cut 1 := ⟨(k13 47 rfl rfl), (k1 19 rfl rfl), ⟨by decide, by decide⟩, by decide +kernel⟩
theorem i_M_cut : Cond.instanceMethod y_M_cut.1 ∈ ab_T := (k13 45 rfl rfl)
theorem v_M_cut : Cond.selects "WorldEngineModel" y_M_cut.1 y_M_cut.1 ∈ ab_T := (k13 46 rfl rfl)
def F_M_cut (N : Nat) (p0 : Nat) (p1 : Int32) (H : Hp) : Option (Int32 × Hp) :=
    ck (H.sh[p0]? = some (12, 0)) <|
    bnd (H.sD p0 0 (0 : Int32)) fun H2 =>
    bnd ((H2.D p0 22)) fun x3 =>
    bC (F_M_in N ((p1 : Int32).toInt64) (0 : Int64) ((x3 : Int32).toInt64) H2) fun v5 H6 =>
    if v5 = (0 : Int32) then
    some (0, H6)
    else
    bnd (H6.sD p0 22 p1) fun H8 =>
    some (1, H8)
set_option maxRecDepth 20000 in
set_option maxHeartbeats 2000000 in
theorem m_M_cut {N : Nat} {p0 : Nat} {p1 : Int32} {H : Hp} {r : Int32 × Hp} (hF : F_M_cut N p0 p1 H = some r) : Sa H r.2 := by
  unfold F_M_cut at hF
  have hm := Sa.rf H
  obtain ⟨q9, hG⟩ := ck_s hF; clear hF
  obtain ⟨H10, eH10, hF⟩ := bnd_g hG; clear hG
  replace hm : Sa H H10 := by rw [eH10]; exact hm
  obtain ⟨x11, -, hG⟩ := bnd_g hF; clear hF
  obtain ⟨v13, H14, z12, hF⟩ := bC_s hG; clear hG
  replace hm : Sa H H14 := hm.tr (m_M_in z12)
  rcases ite_s hF with ⟨q_6, hG⟩ | ⟨q_6, hG⟩
  · clear hF
    have hr := Option.some.inj hG; subst hr
    exact hm
  · clear hF
    obtain ⟨H16, eH16, hF⟩ := bnd_g hG; clear hG
    replace hm : Sa H H16 := by rw [eH16]; exact hm
    have hr := Option.some.inj hF; subst hr
    exact hm
set_option maxRecDepth 20000 in
set_option maxHeartbeats 2000000 in
theorem k_M_cut {N : Nat} {p0 : Nat} {p1 : Int32} {H : Hp} {r : Int32 × Hp} (hF : F_M_cut N p0 p1 H = some r) : ab_M y_M_cut { frames := 1, cells := 0, slots := 0, locals := 25 } [.ref p0, .int p1] (hpw H) (po (.returned (some (.int r.1))) r.2) := by
  unfold F_M_cut at hF
  refine ab_of2 (lv := [some (.ref p0), some (.int p1)]) 0 rfl rfl (Nat.le_of_ble_eq_true rfl) ?_
  refine ab_aload_n d_M_cut_0 rfl rfl rfl ?_
  refine ab_iconst (v := 0) d_M_cut_1 (by decide) ?_
  obtain ⟨q1, hG⟩ := ck_s hF; clear hF
  refine hp_putI (v := 0) (f := 0) d_M_cut_2 q1 (by decide) rfl (by decide) (k9 233 rfl rfl) rfl rfl (fun _ => rfl) (fun _ => rfl) rfl ?_
  refine hp_gen (fun H2 eH2 => ?_)
  replace hG := bnd_s eH2 hG
  have s_1 : Sa H H2 := by rw [eH2]; exact Sa.rf _
  refine ab_iload_n d_M_cut_5 rfl rfl ?_
  refine ab_i2l d_M_cut_6 ?_
  refine ab_lconst (v := 0) d_M_cut_7 (by decide) ?_
  refine ab_aload_n d_M_cut_8 rfl rfl rfl ?_
  refine hp_getI (f := 22) d_M_cut_9 (by rw [(s_1).1]; exact q1) (by decide) rfl (by decide) (k10 15 rfl rfl) rfl ?_
  refine ab_topi (fun x3 ex3 => ?_)
  replace hG := bnd_s ex3 hG
  refine ab_i2l d_M_cut_12 ?_
  obtain ⟨v5, H6, z4, hF⟩ := bC_s hG; clear hG
  refine hp_callS_a (v := .int v5) (H1 := H6) (As := [.long ((p1 : Int32).toInt64), .long 0, .long ((x3 : Int32).toInt64)]) (rest := []) d_M_cut_13 (k_M_in z4) (ab_mkC s_M_in (Nat.le_of_ble_eq_true rfl) (Nat.le_of_ble_eq_true rfl) (Nat.le_refl 0) (Nat.le_refl 0)) (k10 93 rfl rfl) t_M_in rfl (Nat.le_of_ble_eq_true rfl) ?_
  have s_2 : Sa H H6 := (s_1).tr (m_M_in z4)
  refine ab_if_ne (tgt := 21) d_M_cut_16 (by decide) (fun q7 => ?_) (fun q7 => ?_)
  · rw [if_neg q7] at hF
    refine ab_aload_n d_M_cut_21 rfl rfl rfl ?_
    refine ab_iload_n d_M_cut_22 rfl rfl ?_
    refine hp_putI (v := p1) (f := 22) d_M_cut_23 (by rw [(s_2).1]; exact q1) (by decide) rfl (by decide) (k10 15 rfl rfl) rfl rfl (fun _ => rfl) (fun _ => rfl) rfl ?_
    refine hp_gen (fun H8 eH8 => ?_)
    replace hF := bnd_s eH8 hF
    have s_3 : Sa H H8 := by rw [eH8]; exact s_2
    refine ab_iconst (v := 1) d_M_cut_26 (by decide) ?_
    exact ab_zret d_M_cut_27 rfl rfl (Nat.le_refl _) (Nat.le_refl _) (by have hr := Option.some.inj hF; subst hr; exact ⟨rfl, rfl⟩)
  · rw [if_pos q7] at hF
    refine ab_iconst (v := 0) d_M_cut_19 (by decide) ?_
    exact ab_zret d_M_cut_20 rfl rfl (Nat.le_refl _) (Nat.le_refl _) (by have hr := Option.some.inj hF; subst hr; exact ⟨rfl, rfl⟩)
def y_M_byteOut : ab_Y := (⟨"WorldEngineModel", "byteOut", "(I)I"⟩, prog_14_method_49_code, 2, (some FieldType.int), [])
theorem d_M_byteOut_0 : decode y_M_byteOut.2.1 0 = .ok (.aload_n 0, 1) := by decide +kernel
theorem d_M_byteOut_1 : decode y_M_byteOut.2.1 1 = .ok (.iconst 0, 1) := by decide +kernel
theorem d_M_byteOut_2 : decode y_M_byteOut.2.1 2 = .ok (.putfield 83, 3) := by decide +kernel
theorem d_M_byteOut_5 : decode y_M_byteOut.2.1 5 = .ok (.iload_n 1, 1) := by decide +kernel
theorem d_M_byteOut_6 : decode y_M_byteOut.2.1 6 = .ok (.i2l, 1) := by decide +kernel
theorem d_M_byteOut_7 : decode y_M_byteOut.2.1 7 = .ok (.lconst 0, 1) := by decide +kernel
theorem d_M_byteOut_8 : decode y_M_byteOut.2.1 8 = .ok (.aload_n 0, 1) := by decide +kernel
theorem d_M_byteOut_9 : decode y_M_byteOut.2.1 9 = .ok (.getfield 323, 3) := by decide +kernel
theorem d_M_byteOut_12 : decode y_M_byteOut.2.1 12 = .ok (.iconst 1, 1) := by decide +kernel
theorem d_M_byteOut_13 : decode y_M_byteOut.2.1 13 = .ok (.isub, 1) := by decide +kernel
theorem d_M_byteOut_14 : decode y_M_byteOut.2.1 14 = .ok (.i2l, 1) := by decide +kernel
theorem d_M_byteOut_15 : decode y_M_byteOut.2.1 15 = .ok (.invokestatic 99, 3) := by decide +kernel
theorem d_M_byteOut_18 : decode y_M_byteOut.2.1 18 = .ok (.ifCond .eq 16, 3) := by decide +kernel
theorem d_M_byteOut_21 : decode y_M_byteOut.2.1 21 = .ok (.aload_n 0, 1) := by decide +kernel
theorem d_M_byteOut_22 : decode y_M_byteOut.2.1 22 = .ok (.getfield 74, 3) := by decide +kernel
theorem d_M_byteOut_25 : decode y_M_byteOut.2.1 25 = .ok (.iload_n 1, 1) := by decide +kernel
theorem d_M_byteOut_26 : decode y_M_byteOut.2.1 26 = .ok (.baload, 1) := by decide +kernel
theorem d_M_byteOut_27 : decode y_M_byteOut.2.1 27 = .ok (.sipush 255, 3) := by decide +kernel
theorem d_M_byteOut_30 : decode y_M_byteOut.2.1 30 = .ok (.iand, 1) := by decide +kernel
theorem d_M_byteOut_31 : decode y_M_byteOut.2.1 31 = .ok (.goto 4, 3) := by decide +kernel
theorem d_M_byteOut_34 : decode y_M_byteOut.2.1 34 = .ok (.iconst (-1), 1) := by decide +kernel
theorem d_M_byteOut_35 : decode y_M_byteOut.2.1 35 = .ok (.ireturn, 1) := by decide +kernel
theorem s_M_byteOut : ab_Stat y_M_byteOut 1 := ⟨(k13 51 rfl rfl), (k1 19 rfl rfl), ⟨by decide, by decide⟩, by decide +kernel⟩
theorem i_M_byteOut : Cond.instanceMethod y_M_byteOut.1 ∈ ab_T := (k13 49 rfl rfl)
theorem v_M_byteOut : Cond.selects "WorldEngineModel" y_M_byteOut.1 y_M_byteOut.1 ∈ ab_T := (k13 50 rfl rfl)
def F_M_byteOut (N : Nat) (p0 : Nat) (p1 : Int32) (H : Hp) : Option (Int32 × Hp) :=
    ck (H.sh[p0]? = some (12, 0)) <|
    bnd (H.sD p0 0 (0 : Int32)) fun H2 =>
    bnd ((H2.D p0 22)) fun x3 =>
    bC (F_M_in N ((p1 : Int32).toInt64) (0 : Int64) (((x3 - (1 : Int32)) : Int32).toInt64) H2) fun v5 H6 =>
    if v5 = (0 : Int32) then
    some ((-1), H6)
    else
    rf (H6.P p0 21) fun a8 =>
    ar H6 101 a8 fun n10 =>
    ck (inb p1 n10) <|
    bnd ((H6.D a8 (p1).toNatClampNeg)) fun x13 =>
    some (x13 &&& (255 : Int32), H6)
set_option maxRecDepth 20000 in
set_option maxHeartbeats 2000000 in
theorem m_M_byteOut {N : Nat} {p0 : Nat} {p1 : Int32} {H : Hp} {r : Int32 × Hp} (hF : F_M_byteOut N p0 p1 H = some r) : Sa H r.2 := by
  unfold F_M_byteOut at hF
  have hm := Sa.rf H
  obtain ⟨q14, hG⟩ := ck_s hF; clear hF
  obtain ⟨H15, eH15, hF⟩ := bnd_g hG; clear hG
  replace hm : Sa H H15 := by rw [eH15]; exact hm
  obtain ⟨x16, -, hG⟩ := bnd_g hF; clear hF
  obtain ⟨v18, H19, z17, hF⟩ := bC_s hG; clear hG
  replace hm : Sa H H19 := hm.tr (m_M_in z17)
  rcases ite_s hF with ⟨q_5, hG⟩ | ⟨q_5, hG⟩
  · clear hF
    have hr := Option.some.inj hG; subst hr
    exact hm
  · clear hF
    obtain ⟨a21, e22, hF⟩ := rf_s hG; clear hG
    obtain ⟨n23, q24, hG⟩ := ar_s hF; clear hF
    obtain ⟨q25, hF⟩ := ck_s hG; clear hG
    obtain ⟨x26, -, hG⟩ := bnd_g hF; clear hF
    have hr := Option.some.inj hG; subst hr
    exact hm
set_option maxRecDepth 20000 in
set_option maxHeartbeats 2000000 in
theorem k_M_byteOut {N : Nat} {p0 : Nat} {p1 : Int32} {H : Hp} {r : Int32 × Hp} (hF : F_M_byteOut N p0 p1 H = some r) : ab_M y_M_byteOut { frames := 1, cells := 0, slots := 0, locals := 25 } [.ref p0, .int p1] (hpw H) (po (.returned (some (.int r.1))) r.2) := by
  unfold F_M_byteOut at hF
  refine ab_of2 (lv := [some (.ref p0), some (.int p1)]) 0 rfl rfl (Nat.le_of_ble_eq_true rfl) ?_
  refine ab_aload_n d_M_byteOut_0 rfl rfl rfl ?_
  refine ab_iconst (v := 0) d_M_byteOut_1 (by decide) ?_
  obtain ⟨q1, hG⟩ := ck_s hF; clear hF
  refine hp_putI (v := 0) (f := 0) d_M_byteOut_2 q1 (by decide) rfl (by decide) (k9 233 rfl rfl) rfl rfl (fun _ => rfl) (fun _ => rfl) rfl ?_
  refine hp_gen (fun H2 eH2 => ?_)
  replace hG := bnd_s eH2 hG
  have s_1 : Sa H H2 := by rw [eH2]; exact Sa.rf _
  refine ab_iload_n d_M_byteOut_5 rfl rfl ?_
  refine ab_i2l d_M_byteOut_6 ?_
  refine ab_lconst (v := 0) d_M_byteOut_7 (by decide) ?_
  refine ab_aload_n d_M_byteOut_8 rfl rfl rfl ?_
  refine hp_getI (f := 22) d_M_byteOut_9 (by rw [(s_1).1]; exact q1) (by decide) rfl (by decide) (k10 15 rfl rfl) rfl ?_
  refine ab_topi (fun x3 ex3 => ?_)
  replace hG := bnd_s ex3 hG
  refine ab_iconst (v := 1) d_M_byteOut_12 (by decide) ?_
  refine ab_isub d_M_byteOut_13 ?_
  refine ab_i2l d_M_byteOut_14 ?_
  obtain ⟨v5, H6, z4, hF⟩ := bC_s hG; clear hG
  refine hp_callS_a (v := .int v5) (H1 := H6) (As := [.long ((p1 : Int32).toInt64), .long 0, .long (((x3 - (1 : Int32)) : Int32).toInt64)]) (rest := []) d_M_byteOut_15 (k_M_in z4) (ab_mkC s_M_in (Nat.le_of_ble_eq_true rfl) (Nat.le_of_ble_eq_true rfl) (Nat.le_refl 0) (Nat.le_refl 0)) (k10 93 rfl rfl) t_M_in rfl (Nat.le_of_ble_eq_true rfl) ?_
  have s_2 : Sa H H6 := (s_1).tr (m_M_in z4)
  refine ab_if_eq (tgt := 34) d_M_byteOut_18 (by decide) (fun q7 => ?_) (fun q7 => ?_)
  · rw [if_pos q7] at hF
    refine ab_iconst (v := (-1)) d_M_byteOut_34 (by decide) ?_
    exact ab_iret d_M_byteOut_35 rfl (Nat.le_refl _) (Nat.le_refl _) (by have hr := Option.some.inj hF; subst hr; exact ⟨rfl, rfl⟩)
  · rw [if_neg q7] at hF
    refine ab_aload_n d_M_byteOut_21 rfl rfl rfl ?_
    obtain ⟨a8, e9, hG⟩ := rf_s hF; clear hF
    refine hp_getR (f := 21) d_M_byteOut_22 (by rw [(s_2).1]; exact q1) (by decide) rfl (by decide) (k10 14 rfl rfl) rfl e9 ?_
    refine ab_iload_n d_M_byteOut_25 rfl rfl ?_
    obtain ⟨n10, q11, hF⟩ := ar_s hG; clear hG
    rw [(s_2).1] at q11
    obtain ⟨q12, hG⟩ := ck_s hF; clear hF
    refine hp_bald d_M_byteOut_26 tB (by rw [(s_2).1]; exact q11) q12 ?_
    refine ab_topi (fun x13 ex13 => ?_)
    replace hG := bnd_s ex13 hG
    refine ab_sipush (v := 255) d_M_byteOut_27 (by decide) ?_
    refine ab_iand d_M_byteOut_30 ?_
    refine ab_goto (tgt := 35) d_M_byteOut_31 (by decide) ?_
    exact ab_iret d_M_byteOut_35 rfl (Nat.le_refl _) (Nat.le_refl _) (by have hr := Option.some.inj hG; subst hr; exact ⟨rfl, rfl⟩)
def y_M_gets : ab_Y := (⟨"WorldEngineModel", "gets", "(III)I"⟩, prog_14_method_50_code, 6, (some FieldType.int), [])
theorem d_M_gets_0 : decode y_M_gets.2.1 0 = .ok (.iconst 0, 1) := by decide +kernel
theorem d_M_gets_1 : decode y_M_gets.2.1 1 = .ok (.istore 4, 2) := by decide +kernel
theorem d_M_gets_3 : decode y_M_gets.2.1 3 = .ok (.aload_n 0, 1) := by decide +kernel
theorem d_M_gets_4 : decode y_M_gets.2.1 4 = .ok (.getfield 353, 3) := by decide +kernel
theorem d_M_gets_7 : decode y_M_gets.2.1 7 = .ok (.ifCond .ge 24, 3) := by decide +kernel
theorem d_M_gets_10 : decode y_M_gets.2.1 10 = .ok (.aload_n 0, 1) := by decide +kernel
theorem d_M_gets_11 : decode y_M_gets.2.1 11 = .ok (.getfield 356, 3) := by decide +kernel
theorem d_M_gets_14 : decode y_M_gets.2.1 14 = .ok (.iload_n 1, 1) := by decide +kernel
theorem d_M_gets_15 : decode y_M_gets.2.1 15 = .ok (.iadd, 1) := by decide +kernel
theorem d_M_gets_16 : decode y_M_gets.2.1 16 = .ok (.aload_n 0, 1) := by decide +kernel
theorem d_M_gets_17 : decode y_M_gets.2.1 17 = .ok (.getfield 323, 3) := by decide +kernel
theorem d_M_gets_20 : decode y_M_gets.2.1 20 = .ok (.if_icmp .le 11, 3) := by decide +kernel
theorem d_M_gets_23 : decode y_M_gets.2.1 23 = .ok (.aload_n 0, 1) := by decide +kernel
theorem d_M_gets_24 : decode y_M_gets.2.1 24 = .ok (.aload_n 0, 1) := by decide +kernel
theorem d_M_gets_25 : decode y_M_gets.2.1 25 = .ok (.getfield 323, 3) := by decide +kernel
theorem d_M_gets_28 : decode y_M_gets.2.1 28 = .ok (.putfield 353, 3) := by decide +kernel
theorem d_M_gets_31 : decode y_M_gets.2.1 31 = .ok (.aload_n 0, 1) := by decide +kernel
theorem d_M_gets_32 : decode y_M_gets.2.1 32 = .ok (.getfield 353, 3) := by decide +kernel
theorem d_M_gets_35 : decode y_M_gets.2.1 35 = .ok (.ifCond .lt 5, 3) := by decide +kernel
theorem d_M_gets_38 : decode y_M_gets.2.1 38 = .ok (.iconst 0, 1) := by decide +kernel
theorem d_M_gets_39 : decode y_M_gets.2.1 39 = .ok (.ireturn, 1) := by decide +kernel
theorem d_M_gets_40 : decode y_M_gets.2.1 40 = .ok (.iconst 0, 1) := by decide +kernel
theorem d_M_gets_41 : decode y_M_gets.2.1 41 = .ok (.istore 5, 2) := by decide +kernel
theorem d_M_gets_43 : decode y_M_gets.2.1 43 = .ok (.iload 5, 2) := by decide +kernel
theorem d_M_gets_45 : decode y_M_gets.2.1 45 = .ok (.iload_n 1, 1) := by decide +kernel
theorem d_M_gets_46 : decode y_M_gets.2.1 46 = .ok (.if_icmp .ge 33, 3) := by decide +kernel
theorem d_M_gets_49 : decode y_M_gets.2.1 49 = .ok (.iload 4, 2) := by decide +kernel
theorem d_M_gets_51 : decode y_M_gets.2.1 51 = .ok (.bipush 8, 2) := by decide +kernel
theorem d_M_gets_53 : decode y_M_gets.2.1 53 = .ok (.ishl, 1) := by decide +kernel
theorem d_M_gets_54 : decode y_M_gets.2.1 54 = .ok (.aload_n 0, 1) := by decide +kernel
theorem d_M_gets_55 : decode y_M_gets.2.1 55 = .ok (.getfield 74, 3) := by decide +kernel
theorem d_M_gets_58 : decode y_M_gets.2.1 58 = .ok (.aload_n 0, 1) := by decide +kernel
theorem d_M_gets_59 : decode y_M_gets.2.1 59 = .ok (.getfield 356, 3) := by decide +kernel
theorem d_M_gets_62 : decode y_M_gets.2.1 62 = .ok (.iload 5, 2) := by decide +kernel
theorem d_M_gets_64 : decode y_M_gets.2.1 64 = .ok (.iadd, 1) := by decide +kernel
theorem d_M_gets_65 : decode y_M_gets.2.1 65 = .ok (.baload, 1) := by decide +kernel
theorem d_M_gets_66 : decode y_M_gets.2.1 66 = .ok (.sipush 255, 3) := by decide +kernel
theorem d_M_gets_69 : decode y_M_gets.2.1 69 = .ok (.iand, 1) := by decide +kernel
theorem d_M_gets_70 : decode y_M_gets.2.1 70 = .ok (.ior, 1) := by decide +kernel
theorem d_M_gets_71 : decode y_M_gets.2.1 71 = .ok (.istore 4, 2) := by decide +kernel
theorem d_M_gets_73 : decode y_M_gets.2.1 73 = .ok (.iinc 5 1, 3) := by decide +kernel
theorem d_M_gets_76 : decode y_M_gets.2.1 76 = .ok (.goto (-33), 3) := by decide +kernel
theorem d_M_gets_79 : decode y_M_gets.2.1 79 = .ok (.iload 4, 2) := by decide +kernel
theorem d_M_gets_81 : decode y_M_gets.2.1 81 = .ok (.i2l, 1) := by decide +kernel
theorem d_M_gets_82 : decode y_M_gets.2.1 82 = .ok (.iload_n 2, 1) := by decide +kernel
theorem d_M_gets_83 : decode y_M_gets.2.1 83 = .ok (.i2l, 1) := by decide +kernel
theorem d_M_gets_84 : decode y_M_gets.2.1 84 = .ok (.iload_n 3, 1) := by decide +kernel
theorem d_M_gets_85 : decode y_M_gets.2.1 85 = .ok (.i2l, 1) := by decide +kernel
theorem d_M_gets_86 : decode y_M_gets.2.1 86 = .ok (.invokestatic 99, 3) := by decide +kernel
theorem d_M_gets_89 : decode y_M_gets.2.1 89 = .ok (.ifCond .ne 11, 3) := by decide +kernel
theorem d_M_gets_92 : decode y_M_gets.2.1 92 = .ok (.aload_n 0, 1) := by decide +kernel
theorem d_M_gets_93 : decode y_M_gets.2.1 93 = .ok (.aload_n 0, 1) := by decide +kernel
theorem d_M_gets_94 : decode y_M_gets.2.1 94 = .ok (.getfield 356, 3) := by decide +kernel
theorem d_M_gets_97 : decode y_M_gets.2.1 97 = .ok (.putfield 353, 3) := by decide +kernel
theorem d_M_gets_100 : decode y_M_gets.2.1 100 = .ok (.aload_n 0, 1) := by decide +kernel
theorem d_M_gets_101 : decode y_M_gets.2.1 101 = .ok (.dup, 1) := by decide +kernel
theorem d_M_gets_102 : decode y_M_gets.2.1 102 = .ok (.getfield 356, 3) := by decide +kernel
theorem d_M_gets_105 : decode y_M_gets.2.1 105 = .ok (.iload_n 1, 1) := by decide +kernel
theorem d_M_gets_106 : decode y_M_gets.2.1 106 = .ok (.iadd, 1) := by decide +kernel
theorem d_M_gets_107 : decode y_M_gets.2.1 107 = .ok (.putfield 356, 3) := by decide +kernel
theorem d_M_gets_110 : decode y_M_gets.2.1 110 = .ok (.aload_n 0, 1) := by decide +kernel
theorem d_M_gets_111 : decode y_M_gets.2.1 111 = .ok (.getfield 353, 3) := by decide +kernel
theorem d_M_gets_114 : decode y_M_gets.2.1 114 = .ok (.ifCond .ge 8, 3) := by decide +kernel
theorem d_M_gets_117 : decode y_M_gets.2.1 117 = .ok (.iload 4, 2) := by decide +kernel
theorem d_M_gets_119 : decode y_M_gets.2.1 119 = .ok (.goto 4, 3) := by decide +kernel
theorem d_M_gets_122 : decode y_M_gets.2.1 122 = .ok (.iconst 0, 1) := by decide +kernel
theorem d_M_gets_123 : decode y_M_gets.2.1 123 = .ok (.ireturn, 1) := by decide +kernel
theorem s_M_gets : ab_Stat y_M_gets 3 := ⟨(k13 69 rfl rfl), (k1 19 rfl rfl), ⟨by decide, by decide⟩, by decide +kernel⟩
theorem i_M_gets : Cond.instanceMethod y_M_gets.1 ∈ ab_T := (k13 68 rfl rfl)
theorem v_M_gets : Cond.selects "WorldEngineModel" y_M_gets.1 y_M_gets.1 ∈ ab_T := ab_s (List.mem_of_getElem? (i := 213) rfl) rfl
def B_M_gets_100 (N : Nat) (p0 : Nat) (p1 : Int32) (p2 : Int32) (p3 : Int32) (l4 : Int32) (H : Hp) : Option (Int32 × Hp) :=
    ck (H.sh[p0]? = some (12, 0)) <|
    bnd ((H.D p0 27)) fun x13 =>
    bnd (H.sD p0 27 (x13 + p1)) fun H14 =>
    bnd ((H14.D p0 28)) fun x15 =>
    if (0 : Int32) ≤ x15 then
    some (0, H14)
    else
    some (l4, H14)
set_option maxRecDepth 20000 in
set_option maxHeartbeats 2000000 in
theorem mB_M_gets_100 {N : Nat} {p0 : Nat} {p1 : Int32} {p2 : Int32} {p3 : Int32} {l4 : Int32} {H : Hp} {r : Int32 × Hp} (hF : B_M_gets_100 N p0 p1 p2 p3 l4 H = some r) : Sa H r.2 := by
  unfold B_M_gets_100 at hF
  have hm := Sa.rf H
  obtain ⟨q17, hG⟩ := ck_s hF; clear hF
  obtain ⟨x18, -, hF⟩ := bnd_g hG; clear hG
  obtain ⟨H19, eH19, hG⟩ := bnd_g hF; clear hF
  replace hm : Sa H H19 := by rw [eH19]; exact hm
  obtain ⟨x20, -, hF⟩ := bnd_g hG; clear hG
  rcases ite_s hF with ⟨q_4, hG⟩ | ⟨q_4, hG⟩
  · clear hF
    have hr := Option.some.inj hG; subst hr
    exact hm
  · clear hF
    have hr := Option.some.inj hG; subst hr
    exact hm
set_option maxRecDepth 20000 in
set_option maxHeartbeats 2000000 in
theorem kB_M_gets_100 {N : Nat} {p0 : Nat} {p1 : Int32} {p2 : Int32} {p3 : Int32} {l4 : Int32} {H : Hp} {r : Int32 × Hp} (hF : B_M_gets_100 N p0 p1 p2 p3 l4 H = some r) : ab_V y_M_gets { frames := 1, cells := 0, slots := 0, locals := 25 } (po (.returned (some (.int r.1))) r.2) 0 0 0 0 100 [some (.ref p0), some (.int p1), some (.int p2), some (.int p3), some (.int l4), none] [] (hpw H) := by
  unfold B_M_gets_100 at hF
  refine ab_aload_n d_M_gets_100 rfl rfl rfl ?_
  refine ab_dup d_M_gets_101 rfl ?_
  obtain ⟨q12, hG⟩ := ck_s hF; clear hF
  refine hp_getI (f := 27) d_M_gets_102 q12 (by decide) rfl (by decide) (k10 20 rfl rfl) rfl ?_
  refine ab_topi (fun x13 ex13 => ?_)
  replace hG := bnd_s ex13 hG
  refine ab_iload_n d_M_gets_105 rfl rfl ?_
  refine ab_iadd d_M_gets_106 ?_
  refine hp_putI (v := x13 + p1) (f := 27) d_M_gets_107 q12 (by decide) rfl (by decide) (k10 20 rfl rfl) rfl rfl (fun _ => rfl) (fun _ => rfl) rfl ?_
  refine hp_gen (fun H14 eH14 => ?_)
  replace hG := bnd_s eH14 hG
  have s_2 : Sa H H14 := by rw [eH14]; exact Sa.rf _
  refine ab_aload_n d_M_gets_110 rfl rfl rfl ?_
  refine hp_getI (f := 28) d_M_gets_111 (by rw [(s_2).1]; exact q12) (by decide) rfl (by decide) (k10 21 rfl rfl) rfl ?_
  refine ab_topi (fun x15 ex15 => ?_)
  replace hG := bnd_s ex15 hG
  refine ab_if_ge (tgt := 122) d_M_gets_114 (by decide) (fun q16 => ?_) (fun q16 => ?_)
  · rw [if_pos q16] at hG
    refine ab_iconst (v := 0) d_M_gets_122 (by decide) ?_
    exact ab_iret d_M_gets_123 rfl (Nat.le_refl _) (Nat.le_refl _) (by have hr := Option.some.inj hG; subst hr; exact ⟨rfl, rfl⟩)
  · rw [if_neg q16] at hG
    refine ab_iload d_M_gets_117 rfl ?_
    refine ab_goto (tgt := 123) d_M_gets_119 (by decide) ?_
    exact ab_iret d_M_gets_123 rfl (Nat.le_refl _) (Nat.le_refl _) (by have hr := Option.some.inj hG; subst hr; exact ⟨rfl, rfl⟩)
def B_M_gets_43 (N : Nat) (p0 : Nat) (p1 : Int32) (p2 : Int32) (p3 : Int32) : Nat → Int32 → Int32 → Hp → Option (Int32 × Hp)
  | 0, _, _, _ => none
  | n + 1, l4, l5, H =>
    if p1 ≤ l5 then
    bC (F_M_in N ((l4 : Int32).toInt64) ((p2 : Int32).toInt64) ((p3 : Int32).toInt64) H) fun v9 H10 =>
    if v9 = (0 : Int32) then
    ck (H10.sh[p0]? = some (12, 0)) <|
    bnd ((H10.D p0 27)) fun x23 =>
    bnd (H10.sD p0 28 x23) fun H24 =>
    B_M_gets_100 N p0 p1 p2 p3 l4 H24
    else
    B_M_gets_100 N p0 p1 p2 p3 l4 H10
    else
    ck (H.sh[p0]? = some (12, 0)) <|
    rf (H.P p0 21) fun a26 =>
    bnd ((H.D p0 27)) fun x28 =>
    ar H 101 a26 fun n29 =>
    ck (inb (x28 + l5) n29) <|
    bnd ((H.D a26 ((x28 + l5)).toNatClampNeg)) fun x32 =>
    bnd (((l4 <<< ((8 : Int32) &&& 31)) ||| (x32 &&& (255 : Int32)))) fun x33 =>
    B_M_gets_43 N p0 p1 p2 p3 n x33 (l5 + 1) H
termination_by structural n => n
set_option maxRecDepth 20000 in
set_option maxHeartbeats 2000000 in
theorem mB_M_gets_43 {N : Nat} {p0 : Nat} {p1 : Int32} {p2 : Int32} {p3 : Int32} : ∀ (n : Nat) (l4 : Int32) (l5 : Int32) (H : Hp) (r : Int32 × Hp), B_M_gets_43 N p0 p1 p2 p3 n l4 l5 H = some r → Sa H r.2 := by
  intro n
  induction n with
  | zero => intro l4 l5 H r hF; rw [B_M_gets_43] at hF; cases hF
  | succ n ih =>
    intro l4 l5 H r hF
    rw [B_M_gets_43] at hF
    have hm := Sa.rf H
    rcases ite_s hF with ⟨q_6, hG⟩ | ⟨q_6, hG⟩
    · clear hF
      obtain ⟨v36, H37, z35, hF⟩ := bC_s hG; clear hG
      replace hm : Sa H H37 := hm.tr (m_M_in z35)
      rcases ite_s hF with ⟨q_8, hG⟩ | ⟨q_8, hG⟩
      · clear hF
        obtain ⟨q39, hF⟩ := ck_s hG; clear hG
        obtain ⟨x40, -, hG⟩ := bnd_g hF; clear hF
        obtain ⟨H41, eH41, hF⟩ := bnd_g hG; clear hG
        replace hm : Sa H H41 := by rw [eH41]; exact hm
        exact hm.tr (mB_M_gets_100 hF)
      · clear hF
        exact hm.tr (mB_M_gets_100 hG)
    · clear hF
      obtain ⟨q42, hF⟩ := ck_s hG; clear hG
      obtain ⟨a43, e44, hG⟩ := rf_s hF; clear hF
      obtain ⟨x45, -, hF⟩ := bnd_g hG; clear hG
      obtain ⟨n46, q47, hG⟩ := ar_s hF; clear hF
      obtain ⟨q48, hF⟩ := ck_s hG; clear hG
      obtain ⟨x49, -, hG⟩ := bnd_g hF; clear hF
      obtain ⟨x50, -, hF⟩ := bnd_g hG; clear hG
      exact hm.tr (ih x50 (l5 + 1) H r hF)
set_option maxRecDepth 20000 in
set_option maxHeartbeats 2000000 in
theorem kB_M_gets_43 {N : Nat} {p0 : Nat} {p1 : Int32} {p2 : Int32} {p3 : Int32} : ∀ (n : Nat) (l4 : Int32) (l5 : Int32) (H : Hp) (r : Int32 × Hp), B_M_gets_43 N p0 p1 p2 p3 n l4 l5 H = some r → ab_V y_M_gets { frames := 1, cells := 0, slots := 0, locals := 25 } (po (.returned (some (.int r.1))) r.2) 0 0 0 0 43 [some (.ref p0), some (.int p1), some (.int p2), some (.int p3), some (.int l4), some (.int l5)] [] (hpw H) := by
  intro n
  induction n with
  | zero => intro l4 l5 H r hF; rw [B_M_gets_43] at hF; cases hF
  | succ n ih =>
    intro l4 l5 H r hF
    rw [B_M_gets_43] at hF
    refine ab_iload d_M_gets_43 rfl ?_
    refine ab_iload_n d_M_gets_45 rfl rfl ?_
    refine ab_icmp_ge (tgt := 79) d_M_gets_46 (by decide) (fun q7 => ?_) (fun q7 => ?_)
    · rw [if_pos q7] at hF
      refine ab_iload d_M_gets_79 rfl ?_
      refine ab_i2l d_M_gets_81 ?_
      refine ab_iload_n d_M_gets_82 rfl rfl ?_
      refine ab_i2l d_M_gets_83 ?_
      refine ab_iload_n d_M_gets_84 rfl rfl ?_
      refine ab_i2l d_M_gets_85 ?_
      obtain ⟨v9, H10, z8, hG⟩ := bC_s hF; clear hF
      refine hp_callS_a (v := .int v9) (H1 := H10) (As := [.long ((l4 : Int32).toInt64), .long ((p2 : Int32).toInt64), .long ((p3 : Int32).toInt64)]) (rest := []) d_M_gets_86 (k_M_in z8) (ab_mkC s_M_in (Nat.le_of_ble_eq_true rfl) (Nat.le_of_ble_eq_true rfl) (Nat.le_refl 0) (Nat.le_refl 0)) (k10 93 rfl rfl) t_M_in rfl (Nat.le_of_ble_eq_true rfl) ?_
      have s_1 : Sa H H10 := (m_M_in z8)
      refine ab_if_ne (tgt := 100) d_M_gets_89 (by decide) (fun q11 => ?_) (fun q11 => ?_)
      · rw [if_neg q11] at hG
        refine ab_le (lv' := [some (.ref p0), some (.int p1), some (.int p2), some (.int p3), some (.int l4), none]) ⟨rfl, ⟨rfl, ⟨rfl, ⟨rfl, ⟨rfl, trivial⟩⟩⟩⟩⟩ ?_
        exact kB_M_gets_100 hG
      · rw [if_pos q11] at hG
        refine ab_aload_n d_M_gets_92 rfl rfl rfl ?_
        refine ab_aload_n d_M_gets_93 rfl rfl rfl ?_
        obtain ⟨q22, hF⟩ := ck_s hG; clear hG
        rw [(s_1).1] at q22
        refine hp_getI (f := 27) d_M_gets_94 (by rw [(s_1).1]; exact q22) (by decide) rfl (by decide) (k10 20 rfl rfl) rfl ?_
        refine ab_topi (fun x23 ex23 => ?_)
        replace hF := bnd_s ex23 hF
        refine hp_putI (v := x23) (f := 28) d_M_gets_97 (by rw [(s_1).1]; exact q22) (by decide) rfl (by decide) (k10 21 rfl rfl) rfl rfl (fun _ => rfl) (fun _ => rfl) rfl ?_
        refine hp_gen (fun H24 eH24 => ?_)
        replace hF := bnd_s eH24 hF
        have s_5 : Sa H H24 := by rw [eH24]; exact s_1
        refine ab_le (lv' := [some (.ref p0), some (.int p1), some (.int p2), some (.int p3), some (.int l4), none]) ⟨rfl, ⟨rfl, ⟨rfl, ⟨rfl, ⟨rfl, trivial⟩⟩⟩⟩⟩ ?_
        exact kB_M_gets_100 hF
    · rw [if_neg q7] at hF
      refine ab_iload d_M_gets_49 rfl ?_
      refine ab_bipush (v := 8) d_M_gets_51 (by decide) ?_
      refine ab_ishl d_M_gets_53 ?_
      refine ab_aload_n d_M_gets_54 rfl rfl rfl ?_
      obtain ⟨q25, hG⟩ := ck_s hF; clear hF
      obtain ⟨a26, e27, hF⟩ := rf_s hG; clear hG
      refine hp_getR (f := 21) d_M_gets_55 q25 (by decide) rfl (by decide) (k10 14 rfl rfl) rfl e27 ?_
      refine ab_aload_n d_M_gets_58 rfl rfl rfl ?_
      refine hp_getI (f := 27) d_M_gets_59 q25 (by decide) rfl (by decide) (k10 20 rfl rfl) rfl ?_
      refine ab_topi (fun x28 ex28 => ?_)
      replace hF := bnd_s ex28 hF
      refine ab_iload d_M_gets_62 rfl ?_
      refine ab_iadd d_M_gets_64 ?_
      obtain ⟨n29, q30, hG⟩ := ar_s hF; clear hF
      obtain ⟨q31, hF⟩ := ck_s hG; clear hG
      refine hp_bald d_M_gets_65 tB q30 q31 ?_
      refine ab_topi (fun x32 ex32 => ?_)
      replace hF := bnd_s ex32 hF
      refine ab_sipush (v := 255) d_M_gets_66 (by decide) ?_
      refine ab_iand d_M_gets_69 ?_
      refine ab_ior d_M_gets_70 ?_
      refine ab_topi (fun x33 ex33 => ?_)
      replace hF := bnd_s ex33 hF
      refine ab_istore (lv' := [some (.ref p0), some (.int p1), some (.int p2), some (.int p3), some (.int x33), some (.int l5)]) d_M_gets_71 (by decide) rfl ?_
      refine ab_iinc (v := l5 + 1) (lv' := [some (.ref p0), some (.int p1), some (.int p2), some (.int p3), some (.int x33), some (.int (l5 + 1))]) d_M_gets_73 rfl rfl (by decide) rfl ?_
      refine ab_goto (tgt := 43) d_M_gets_76 (by decide) ?_
      exact ih x33 (l5 + 1) H r hF
def B_M_gets_31 (N : Nat) (p0 : Nat) (p1 : Int32) (p2 : Int32) (p3 : Int32) (l4 : Int32) (H : Hp) : Option (Int32 × Hp) :=
    ck (H.sh[p0]? = some (12, 0)) <|
    bnd ((H.D p0 28)) fun x5 =>
    if x5 < (0 : Int32) then
    B_M_gets_43 N p0 p1 p2 p3 N l4 0 H
    else
    some (0, H)
set_option maxRecDepth 20000 in
set_option maxHeartbeats 2000000 in
theorem mB_M_gets_31 {N : Nat} {p0 : Nat} {p1 : Int32} {p2 : Int32} {p3 : Int32} {l4 : Int32} {H : Hp} {r : Int32 × Hp} (hF : B_M_gets_31 N p0 p1 p2 p3 l4 H = some r) : Sa H r.2 := by
  unfold B_M_gets_31 at hF
  have hm := Sa.rf H
  obtain ⟨q51, hG⟩ := ck_s hF; clear hF
  obtain ⟨x52, -, hF⟩ := bnd_g hG; clear hG
  rcases ite_s hF with ⟨q_10, hG⟩ | ⟨q_10, hG⟩
  · clear hF
    exact hm.tr (mB_M_gets_43 N l4 0 H r hG)
  · clear hF
    have hr := Option.some.inj hG; subst hr
    exact hm
set_option maxRecDepth 20000 in
set_option maxHeartbeats 2000000 in
theorem kB_M_gets_31 {N : Nat} {p0 : Nat} {p1 : Int32} {p2 : Int32} {p3 : Int32} {l4 : Int32} {H : Hp} {r : Int32 × Hp} (hF : B_M_gets_31 N p0 p1 p2 p3 l4 H = some r) : ab_V y_M_gets { frames := 1, cells := 0, slots := 0, locals := 25 } (po (.returned (some (.int r.1))) r.2) 0 0 0 0 31 [some (.ref p0), some (.int p1), some (.int p2), some (.int p3), some (.int l4), none] [] (hpw H) := by
  unfold B_M_gets_31 at hF
  refine ab_aload_n d_M_gets_31 rfl rfl rfl ?_
  obtain ⟨q4, hG⟩ := ck_s hF; clear hF
  refine hp_getI (f := 28) d_M_gets_32 q4 (by decide) rfl (by decide) (k10 21 rfl rfl) rfl ?_
  refine ab_topi (fun x5 ex5 => ?_)
  replace hG := bnd_s ex5 hG
  refine ab_if_lt (tgt := 40) d_M_gets_35 (by decide) (fun q6 => ?_) (fun q6 => ?_)
  · rw [if_pos q6] at hG
    refine ab_iconst (v := 0) d_M_gets_40 (by decide) ?_
    refine ab_istore (lv' := [some (.ref p0), some (.int p1), some (.int p2), some (.int p3), some (.int l4), some (.int 0)]) d_M_gets_41 (by decide) rfl ?_
    exact kB_M_gets_43 N l4 0 H r hG
  · rw [if_neg q6] at hG
    refine ab_iconst (v := 0) d_M_gets_38 (by decide) ?_
    exact ab_iret d_M_gets_39 rfl (Nat.le_refl _) (Nat.le_refl _) (by have hr := Option.some.inj hG; subst hr; exact ⟨rfl, rfl⟩)
def F_M_gets (N : Nat) (p0 : Nat) (p1 : Int32) (p2 : Int32) (p3 : Int32) (H : Hp) : Option (Int32 × Hp) :=
    ck (H.sh[p0]? = some (12, 0)) <|
    bnd ((H.D p0 28)) fun x2 =>
    if (0 : Int32) ≤ x2 then
    B_M_gets_31 N p0 p1 p2 p3 0 H
    else
    bnd ((H.D p0 27)) fun x54 =>
    bnd ((H.D p0 22)) fun x55 =>
    if (x54 + p1) ≤ x55 then
    B_M_gets_31 N p0 p1 p2 p3 0 H
    else
    bnd ((H.D p0 22)) fun x57 =>
    bnd (H.sD p0 28 x57) fun H58 =>
    B_M_gets_31 N p0 p1 p2 p3 0 H58
set_option maxRecDepth 20000 in
set_option maxHeartbeats 2000000 in
theorem m_M_gets {N : Nat} {p0 : Nat} {p1 : Int32} {p2 : Int32} {p3 : Int32} {H : Hp} {r : Int32 × Hp} (hF : F_M_gets N p0 p1 p2 p3 H = some r) : Sa H r.2 := by
  unfold F_M_gets at hF
  have hm := Sa.rf H
  obtain ⟨q59, hG⟩ := ck_s hF; clear hF
  obtain ⟨x60, -, hF⟩ := bnd_g hG; clear hG
  rcases ite_s hF with ⟨q_12, hG⟩ | ⟨q_12, hG⟩
  · clear hF
    exact hm.tr (mB_M_gets_31 hG)
  · clear hF
    obtain ⟨x62, -, hF⟩ := bnd_g hG; clear hG
    obtain ⟨x63, -, hG⟩ := bnd_g hF; clear hF
    rcases ite_s hG with ⟨q_13, hF⟩ | ⟨q_13, hF⟩
    · clear hG
      exact hm.tr (mB_M_gets_31 hF)
    · clear hG
      obtain ⟨x65, -, hG⟩ := bnd_g hF; clear hF
      obtain ⟨H66, eH66, hF⟩ := bnd_g hG; clear hG
      replace hm : Sa H H66 := by rw [eH66]; exact hm
      exact hm.tr (mB_M_gets_31 hF)
set_option maxRecDepth 20000 in
set_option maxHeartbeats 2000000 in
theorem k_M_gets {N : Nat} {p0 : Nat} {p1 : Int32} {p2 : Int32} {p3 : Int32} {H : Hp} {r : Int32 × Hp} (hF : F_M_gets N p0 p1 p2 p3 H = some r) : ab_M y_M_gets { frames := 1, cells := 0, slots := 0, locals := 25 } [.ref p0, .int p1, .int p2, .int p3] (hpw H) (po (.returned (some (.int r.1))) r.2) := by
  unfold F_M_gets at hF
  refine ab_of2 (lv := [some (.ref p0), some (.int p1), some (.int p2), some (.int p3), none, none]) 2 rfl rfl (Nat.le_of_ble_eq_true rfl) ?_
  refine ab_iconst (v := 0) d_M_gets_0 (by decide) ?_
  refine ab_istore (lv' := [some (.ref p0), some (.int p1), some (.int p2), some (.int p3), some (.int 0), none]) d_M_gets_1 (by decide) rfl ?_
  refine ab_aload_n d_M_gets_3 rfl rfl rfl ?_
  obtain ⟨q1, hG⟩ := ck_s hF; clear hF
  refine hp_getI (f := 28) d_M_gets_4 q1 (by decide) rfl (by decide) (k10 21 rfl rfl) rfl ?_
  refine ab_topi (fun x2 ex2 => ?_)
  replace hG := bnd_s ex2 hG
  refine ab_if_ge (tgt := 31) d_M_gets_7 (by decide) (fun q3 => ?_) (fun q3 => ?_)
  · rw [if_pos q3] at hG
    exact kB_M_gets_31 hG
  · rw [if_neg q3] at hG
    refine ab_aload_n d_M_gets_10 rfl rfl rfl ?_
    refine hp_getI (f := 27) d_M_gets_11 q1 (by decide) rfl (by decide) (k10 20 rfl rfl) rfl ?_
    refine ab_topi (fun x54 ex54 => ?_)
    replace hG := bnd_s ex54 hG
    refine ab_iload_n d_M_gets_14 rfl rfl ?_
    refine ab_iadd d_M_gets_15 ?_
    refine ab_aload_n d_M_gets_16 rfl rfl rfl ?_
    refine hp_getI (f := 22) d_M_gets_17 q1 (by decide) rfl (by decide) (k10 15 rfl rfl) rfl ?_
    refine ab_topi (fun x55 ex55 => ?_)
    replace hG := bnd_s ex55 hG
    refine ab_icmp_le (tgt := 31) d_M_gets_20 (by decide) (fun q56 => ?_) (fun q56 => ?_)
    · rw [if_pos q56] at hG
      exact kB_M_gets_31 hG
    · rw [if_neg q56] at hG
      refine ab_aload_n d_M_gets_23 rfl rfl rfl ?_
      refine ab_aload_n d_M_gets_24 rfl rfl rfl ?_
      refine hp_getI (f := 22) d_M_gets_25 q1 (by decide) rfl (by decide) (k10 15 rfl rfl) rfl ?_
      refine ab_topi (fun x57 ex57 => ?_)
      replace hG := bnd_s ex57 hG
      refine hp_putI (v := x57) (f := 28) d_M_gets_28 q1 (by decide) rfl (by decide) (k10 21 rfl rfl) rfl rfl (fun _ => rfl) (fun _ => rfl) rfl ?_
      refine hp_gen (fun H58 eH58 => ?_)
      replace hG := bnd_s eH58 hG
      have s_11 : Sa H H58 := by rw [eH58]; exact Sa.rf _
      exact kB_M_gets_31 hG
def y_M_getsExactly : ab_Y := (⟨"WorldEngineModel", "getsExactly", "(I)V"⟩, prog_14_method_52_code, 3, none, [])
theorem d_M_getsExactly_0 : decode y_M_getsExactly.2.1 0 = .ok (.aload_n 0, 1) := by decide +kernel
theorem d_M_getsExactly_1 : decode y_M_getsExactly.2.1 1 = .ok (.iconst 1, 1) := by decide +kernel
theorem d_M_getsExactly_2 : decode y_M_getsExactly.2.1 2 = .ok (.iload_n 1, 1) := by decide +kernel
theorem d_M_getsExactly_3 : decode y_M_getsExactly.2.1 3 = .ok (.iload_n 1, 1) := by decide +kernel
theorem d_M_getsExactly_4 : decode y_M_getsExactly.2.1 4 = .ok (.invokevirtual 359, 3) := by decide +kernel
theorem d_M_getsExactly_7 : decode y_M_getsExactly.2.1 7 = .ok (.istore_n 2, 1) := by decide +kernel
theorem d_M_getsExactly_8 : decode y_M_getsExactly.2.1 8 = .ok (.return_, 1) := by decide +kernel
theorem s_M_getsExactly : ab_Stat y_M_getsExactly 1 := ⟨(k13 65 rfl rfl), (k1 19 rfl rfl), ⟨by decide, by decide⟩, by decide +kernel⟩
theorem i_M_getsExactly : Cond.instanceMethod y_M_getsExactly.1 ∈ ab_T := (k13 64 rfl rfl)
theorem v_M_getsExactly : Cond.selects "WorldEngineModel" y_M_getsExactly.1 y_M_getsExactly.1 ∈ ab_T := ab_s (List.mem_of_getElem? (i := 212) rfl) rfl
def F_M_getsExactly (N : Nat) (p0 : Nat) (p1 : Int32) (H : Hp) : Option (Unit × Hp) :=
    ck (H.sh[p0]? = some (12, 0)) <|
    bC (F_M_gets N p0 (1 : Int32) p1 p1 H) fun v3 H4 =>
    some ((), H4)
set_option maxRecDepth 20000 in
set_option maxHeartbeats 2000000 in
theorem m_M_getsExactly {N : Nat} {p0 : Nat} {p1 : Int32} {H : Hp} {r : Unit × Hp} (hF : F_M_getsExactly N p0 p1 H = some r) : Sa H r.2 := by
  unfold F_M_getsExactly at hF
  have hm := Sa.rf H
  obtain ⟨q5, hG⟩ := ck_s hF; clear hF
  obtain ⟨v7, H8, z6, hF⟩ := bC_s hG; clear hG
  replace hm : Sa H H8 := hm.tr (m_M_gets z6)
  have hr := Option.some.inj hF; subst hr
  exact hm
set_option maxRecDepth 20000 in
set_option maxHeartbeats 2000000 in
theorem k_M_getsExactly {N : Nat} {p0 : Nat} {p1 : Int32} {H : Hp} {r : Unit × Hp} (hF : F_M_getsExactly N p0 p1 H = some r) : ab_M y_M_getsExactly { frames := 2, cells := 0, slots := 0, locals := 50 } [.ref p0, .int p1] (hpw H) (po (.returned none) r.2) := by
  unfold F_M_getsExactly at hF
  refine ab_of2 (lv := [some (.ref p0), some (.int p1), none]) 1 rfl rfl (Nat.le_of_ble_eq_true rfl) ?_
  refine ab_aload_n d_M_getsExactly_0 rfl rfl rfl ?_
  refine ab_iconst (v := 1) d_M_getsExactly_1 (by decide) ?_
  refine ab_iload_n d_M_getsExactly_2 rfl rfl ?_
  refine ab_iload_n d_M_getsExactly_3 rfl rfl ?_
  obtain ⟨q1, hG⟩ := ck_s hF; clear hF
  obtain ⟨v3, H4, z2, hF⟩ := bC_s hG; clear hG
  refine hp_callV_a (v := .int v3) (H1 := H4) (As := [.int 1, .int p1, .int p1]) (rest := []) d_M_getsExactly_4 (k_M_gets z2) (ab_mkC s_M_gets (Nat.le_of_ble_eq_true rfl) (Nat.le_of_ble_eq_true rfl) (Nat.le_refl 0) (Nat.le_refl 0)) (k13 66 rfl rfl) i_M_gets v_M_gets q1 (by decide) rfl rfl (Nat.le_of_ble_eq_true rfl) ?_
  have s_1 : Sa H H4 := (m_M_gets z2)
  refine ab_istore_n (lv' := [some (.ref p0), some (.int p1), some (.int v3)]) d_M_getsExactly_7 rfl (by decide) rfl ?_
  exact ab_vret d_M_getsExactly_8 rfl (Nat.le_refl _) (Nat.le_refl _) (by have hr := Option.some.inj hF; subst hr; exact ⟨rfl, rfl⟩)
def y_M_getsTables : ab_Y := (⟨"WorldEngineModel", "getsTables", "()V"⟩, prog_14_method_53_code, 3, none, [])
theorem d_M_getsTables_0 : decode y_M_getsTables.2.1 0 = .ok (.aload_n 0, 1) := by decide +kernel
theorem d_M_getsTables_1 : decode y_M_getsTables.2.1 1 = .ok (.bipush 87, 2) := by decide +kernel
theorem d_M_getsTables_3 : decode y_M_getsTables.2.1 3 = .ok (.invokevirtual 364, 3) := by decide +kernel
theorem d_M_getsTables_6 : decode y_M_getsTables.2.1 6 = .ok (.aload_n 0, 1) := by decide +kernel
theorem d_M_getsTables_7 : decode y_M_getsTables.2.1 7 = .ok (.bipush 69, 2) := by decide +kernel
theorem d_M_getsTables_9 : decode y_M_getsTables.2.1 9 = .ok (.invokevirtual 364, 3) := by decide +kernel
theorem d_M_getsTables_12 : decode y_M_getsTables.2.1 12 = .ok (.aload_n 0, 1) := by decide +kernel
theorem d_M_getsTables_13 : decode y_M_getsTables.2.1 13 = .ok (.aload_n 0, 1) := by decide +kernel
theorem d_M_getsTables_14 : decode y_M_getsTables.2.1 14 = .ok (.getfield 16, 3) := by decide +kernel
theorem d_M_getsTables_17 : decode y_M_getsTables.2.1 17 = .ok (.getfield 161, 3) := by decide +kernel
theorem d_M_getsTables_20 : decode y_M_getsTables.2.1 20 = .ok (.invokevirtual 364, 3) := by decide +kernel
theorem d_M_getsTables_23 : decode y_M_getsTables.2.1 23 = .ok (.iconst 0, 1) := by decide +kernel
theorem d_M_getsTables_24 : decode y_M_getsTables.2.1 24 = .ok (.istore_n 1, 1) := by decide +kernel
theorem d_M_getsTables_25 : decode y_M_getsTables.2.1 25 = .ok (.iload_n 1, 1) := by decide +kernel
theorem d_M_getsTables_26 : decode y_M_getsTables.2.1 26 = .ok (.aload_n 0, 1) := by decide +kernel
theorem d_M_getsTables_27 : decode y_M_getsTables.2.1 27 = .ok (.getfield 16, 3) := by decide +kernel
theorem d_M_getsTables_30 : decode y_M_getsTables.2.1 30 = .ok (.getfield 161, 3) := by decide +kernel
theorem d_M_getsTables_33 : decode y_M_getsTables.2.1 33 = .ok (.if_icmp .ge 78, 3) := by decide +kernel
theorem d_M_getsTables_36 : decode y_M_getsTables.2.1 36 = .ok (.aload_n 0, 1) := by decide +kernel
theorem d_M_getsTables_37 : decode y_M_getsTables.2.1 37 = .ok (.aload_n 0, 1) := by decide +kernel
theorem d_M_getsTables_38 : decode y_M_getsTables.2.1 38 = .ok (.getfield 16, 3) := by decide +kernel
theorem d_M_getsTables_41 : decode y_M_getsTables.2.1 41 = .ok (.getfield 171, 3) := by decide +kernel
theorem d_M_getsTables_44 : decode y_M_getsTables.2.1 44 = .ok (.iload_n 1, 1) := by decide +kernel
theorem d_M_getsTables_45 : decode y_M_getsTables.2.1 45 = .ok (.iconst 1, 1) := by decide +kernel
theorem d_M_getsTables_46 : decode y_M_getsTables.2.1 46 = .ok (.iadd, 1) := by decide +kernel
theorem d_M_getsTables_47 : decode y_M_getsTables.2.1 47 = .ok (.iaload, 1) := by decide +kernel
theorem d_M_getsTables_48 : decode y_M_getsTables.2.1 48 = .ok (.aload_n 0, 1) := by decide +kernel
theorem d_M_getsTables_49 : decode y_M_getsTables.2.1 49 = .ok (.getfield 16, 3) := by decide +kernel
theorem d_M_getsTables_52 : decode y_M_getsTables.2.1 52 = .ok (.getfield 171, 3) := by decide +kernel
theorem d_M_getsTables_55 : decode y_M_getsTables.2.1 55 = .ok (.iload_n 1, 1) := by decide +kernel
theorem d_M_getsTables_56 : decode y_M_getsTables.2.1 56 = .ok (.iaload, 1) := by decide +kernel
theorem d_M_getsTables_57 : decode y_M_getsTables.2.1 57 = .ok (.isub, 1) := by decide +kernel
theorem d_M_getsTables_58 : decode y_M_getsTables.2.1 58 = .ok (.invokevirtual 364, 3) := by decide +kernel
theorem d_M_getsTables_61 : decode y_M_getsTables.2.1 61 = .ok (.aload_n 0, 1) := by decide +kernel
theorem d_M_getsTables_62 : decode y_M_getsTables.2.1 62 = .ok (.getfield 16, 3) := by decide +kernel
theorem d_M_getsTables_65 : decode y_M_getsTables.2.1 65 = .ok (.getfield 171, 3) := by decide +kernel
theorem d_M_getsTables_68 : decode y_M_getsTables.2.1 68 = .ok (.iload_n 1, 1) := by decide +kernel
theorem d_M_getsTables_69 : decode y_M_getsTables.2.1 69 = .ok (.iaload, 1) := by decide +kernel
theorem d_M_getsTables_70 : decode y_M_getsTables.2.1 70 = .ok (.istore_n 2, 1) := by decide +kernel
theorem d_M_getsTables_71 : decode y_M_getsTables.2.1 71 = .ok (.iload_n 2, 1) := by decide +kernel
theorem d_M_getsTables_72 : decode y_M_getsTables.2.1 72 = .ok (.aload_n 0, 1) := by decide +kernel
theorem d_M_getsTables_73 : decode y_M_getsTables.2.1 73 = .ok (.getfield 16, 3) := by decide +kernel
theorem d_M_getsTables_76 : decode y_M_getsTables.2.1 76 = .ok (.getfield 171, 3) := by decide +kernel
theorem d_M_getsTables_79 : decode y_M_getsTables.2.1 79 = .ok (.iload_n 1, 1) := by decide +kernel
theorem d_M_getsTables_80 : decode y_M_getsTables.2.1 80 = .ok (.iconst 1, 1) := by decide +kernel
theorem d_M_getsTables_81 : decode y_M_getsTables.2.1 81 = .ok (.iadd, 1) := by decide +kernel
theorem d_M_getsTables_82 : decode y_M_getsTables.2.1 82 = .ok (.iaload, 1) := by decide +kernel
theorem d_M_getsTables_83 : decode y_M_getsTables.2.1 83 = .ok (.if_icmp .ge 22, 3) := by decide +kernel
theorem d_M_getsTables_86 : decode y_M_getsTables.2.1 86 = .ok (.aload_n 0, 1) := by decide +kernel
theorem d_M_getsTables_87 : decode y_M_getsTables.2.1 87 = .ok (.aload_n 0, 1) := by decide +kernel
theorem d_M_getsTables_88 : decode y_M_getsTables.2.1 88 = .ok (.getfield 16, 3) := by decide +kernel
theorem d_M_getsTables_91 : decode y_M_getsTables.2.1 91 = .ok (.getfield 184, 3) := by decide +kernel
theorem d_M_getsTables_94 : decode y_M_getsTables.2.1 94 = .ok (.iload_n 2, 1) := by decide +kernel
theorem d_M_getsTables_95 : decode y_M_getsTables.2.1 95 = .ok (.iaload, 1) := by decide +kernel
theorem d_M_getsTables_96 : decode y_M_getsTables.2.1 96 = .ok (.invokevirtual 364, 3) := by decide +kernel
theorem d_M_getsTables_99 : decode y_M_getsTables.2.1 99 = .ok (.iinc 2 1, 3) := by decide +kernel
theorem d_M_getsTables_102 : decode y_M_getsTables.2.1 102 = .ok (.goto (-31), 3) := by decide +kernel
theorem d_M_getsTables_105 : decode y_M_getsTables.2.1 105 = .ok (.iinc 1 1, 3) := by decide +kernel
theorem d_M_getsTables_108 : decode y_M_getsTables.2.1 108 = .ok (.goto (-83), 3) := by decide +kernel
theorem d_M_getsTables_111 : decode y_M_getsTables.2.1 111 = .ok (.aload_n 0, 1) := by decide +kernel
theorem d_M_getsTables_112 : decode y_M_getsTables.2.1 112 = .ok (.aload_n 0, 1) := by decide +kernel
theorem d_M_getsTables_113 : decode y_M_getsTables.2.1 113 = .ok (.getfield 16, 3) := by decide +kernel
theorem d_M_getsTables_116 : decode y_M_getsTables.2.1 116 = .ok (.getfield 341, 3) := by decide +kernel
theorem d_M_getsTables_119 : decode y_M_getsTables.2.1 119 = .ok (.invokevirtual 364, 3) := by decide +kernel
theorem d_M_getsTables_122 : decode y_M_getsTables.2.1 122 = .ok (.iconst 0, 1) := by decide +kernel
theorem d_M_getsTables_123 : decode y_M_getsTables.2.1 123 = .ok (.istore_n 1, 1) := by decide +kernel
theorem d_M_getsTables_124 : decode y_M_getsTables.2.1 124 = .ok (.iload_n 1, 1) := by decide +kernel
theorem d_M_getsTables_125 : decode y_M_getsTables.2.1 125 = .ok (.aload_n 0, 1) := by decide +kernel
theorem d_M_getsTables_126 : decode y_M_getsTables.2.1 126 = .ok (.getfield 16, 3) := by decide +kernel
theorem d_M_getsTables_129 : decode y_M_getsTables.2.1 129 = .ok (.getfield 341, 3) := by decide +kernel
theorem d_M_getsTables_132 : decode y_M_getsTables.2.1 132 = .ok (.if_icmp .ge 60, 3) := by decide +kernel
theorem d_M_getsTables_135 : decode y_M_getsTables.2.1 135 = .ok (.aload_n 0, 1) := by decide +kernel
theorem d_M_getsTables_136 : decode y_M_getsTables.2.1 136 = .ok (.aload_n 0, 1) := by decide +kernel
theorem d_M_getsTables_137 : decode y_M_getsTables.2.1 137 = .ok (.getfield 16, 3) := by decide +kernel
theorem d_M_getsTables_140 : decode y_M_getsTables.2.1 140 = .ok (.getfield 310, 3) := by decide +kernel
theorem d_M_getsTables_143 : decode y_M_getsTables.2.1 143 = .ok (.iload_n 1, 1) := by decide +kernel
theorem d_M_getsTables_144 : decode y_M_getsTables.2.1 144 = .ok (.iaload, 1) := by decide +kernel
theorem d_M_getsTables_145 : decode y_M_getsTables.2.1 145 = .ok (.invokevirtual 364, 3) := by decide +kernel
theorem d_M_getsTables_148 : decode y_M_getsTables.2.1 148 = .ok (.iconst 0, 1) := by decide +kernel
theorem d_M_getsTables_149 : decode y_M_getsTables.2.1 149 = .ok (.istore_n 2, 1) := by decide +kernel
theorem d_M_getsTables_150 : decode y_M_getsTables.2.1 150 = .ok (.iload_n 2, 1) := by decide +kernel
theorem d_M_getsTables_151 : decode y_M_getsTables.2.1 151 = .ok (.aload_n 0, 1) := by decide +kernel
theorem d_M_getsTables_152 : decode y_M_getsTables.2.1 152 = .ok (.getfield 16, 3) := by decide +kernel
theorem d_M_getsTables_155 : decode y_M_getsTables.2.1 155 = .ok (.getfield 310, 3) := by decide +kernel
theorem d_M_getsTables_158 : decode y_M_getsTables.2.1 158 = .ok (.iload_n 1, 1) := by decide +kernel
theorem d_M_getsTables_159 : decode y_M_getsTables.2.1 159 = .ok (.iaload, 1) := by decide +kernel
theorem d_M_getsTables_160 : decode y_M_getsTables.2.1 160 = .ok (.if_icmp .ge 26, 3) := by decide +kernel
theorem d_M_getsTables_163 : decode y_M_getsTables.2.1 163 = .ok (.aload_n 0, 1) := by decide +kernel
theorem d_M_getsTables_164 : decode y_M_getsTables.2.1 164 = .ok (.aload_n 0, 1) := by decide +kernel
theorem d_M_getsTables_165 : decode y_M_getsTables.2.1 165 = .ok (.getfield 16, 3) := by decide +kernel
theorem d_M_getsTables_168 : decode y_M_getsTables.2.1 168 = .ok (.getfield 344, 3) := by decide +kernel
theorem d_M_getsTables_171 : decode y_M_getsTables.2.1 171 = .ok (.iconst 4, 1) := by decide +kernel
theorem d_M_getsTables_172 : decode y_M_getsTables.2.1 172 = .ok (.iload_n 1, 1) := by decide +kernel
theorem d_M_getsTables_173 : decode y_M_getsTables.2.1 173 = .ok (.imul, 1) := by decide +kernel
theorem d_M_getsTables_174 : decode y_M_getsTables.2.1 174 = .ok (.iload_n 2, 1) := by decide +kernel
theorem d_M_getsTables_175 : decode y_M_getsTables.2.1 175 = .ok (.iadd, 1) := by decide +kernel
theorem d_M_getsTables_176 : decode y_M_getsTables.2.1 176 = .ok (.iaload, 1) := by decide +kernel
theorem d_M_getsTables_177 : decode y_M_getsTables.2.1 177 = .ok (.invokevirtual 364, 3) := by decide +kernel
theorem d_M_getsTables_180 : decode y_M_getsTables.2.1 180 = .ok (.iinc 2 1, 3) := by decide +kernel
theorem d_M_getsTables_183 : decode y_M_getsTables.2.1 183 = .ok (.goto (-33), 3) := by decide +kernel
theorem d_M_getsTables_186 : decode y_M_getsTables.2.1 186 = .ok (.iinc 1 1, 3) := by decide +kernel
theorem d_M_getsTables_189 : decode y_M_getsTables.2.1 189 = .ok (.goto (-65), 3) := by decide +kernel
theorem d_M_getsTables_192 : decode y_M_getsTables.2.1 192 = .ok (.return_, 1) := by decide +kernel
theorem s_M_getsTables : ab_Stat y_M_getsTables 0 := ⟨(k13 61 rfl rfl), (k1 19 rfl rfl), ⟨by decide, by decide⟩, by decide +kernel⟩
theorem i_M_getsTables : Cond.instanceMethod y_M_getsTables.1 ∈ ab_T := (k13 60 rfl rfl)
theorem v_M_getsTables : Cond.selects "WorldEngineModel" y_M_getsTables.1 y_M_getsTables.1 ∈ ab_T := ab_s (List.mem_of_getElem? (i := 211) rfl) rfl
def B_M_getsTables_150 (N : Nat) (p0 : Nat) (kq124 : Int32 → Hp → Option (Unit × Hp)) : Nat → Int32 → Int32 → Hp → Option (Unit × Hp)
  | 0, _, _, _ => none
  | n + 1, l1, l2, H =>
    ck (H.sh[p0]? = some (12, 0)) <|
    rf (H.P p0 3) fun a47 =>
    ck (H.sh[a47]? = some (14, 0)) <|
    rf (H.P a47 23) fun a50 =>
    ar H 100 a50 fun n52 =>
    ck (inb l1 n52) <|
    bnd ((H.D a50 (l1).toNatClampNeg)) fun x55 =>
    if x55 ≤ l2 then
    kq124 (l1 + 1) H
    else
    rf (H.P p0 3) fun a57 =>
    ck (H.sh[a57]? = some (14, 0)) <|
    rf (H.P a57 24) fun a60 =>
    ar H 100 a60 fun n62 =>
    ck (inb (((4 : Int32) * l1) + l2) n62) <|
    bnd ((H.D a60 ((((4 : Int32) * l1) + l2)).toNatClampNeg)) fun x65 =>
    bC (F_M_getsExactly N p0 x65 H) fun v67 H68 =>
    B_M_getsTables_150 N p0 kq124 n l1 (l2 + 1) H68
termination_by structural n => n
set_option maxRecDepth 20000 in
set_option maxHeartbeats 2000000 in
theorem mB_M_getsTables_150 {N : Nat} {p0 : Nat} {kq124 : Int32 → Hp → Option (Unit × Hp)} (hm124 : ∀ (l1 : Int32) (H : Hp) (r : Unit × Hp), kq124 l1 H = some r → Sa H r.2) : ∀ (n : Nat) (l1 : Int32) (l2 : Int32) (H : Hp) (r : Unit × Hp), B_M_getsTables_150 N p0 kq124 n l1 l2 H = some r → Sa H r.2 := by
  intro n
  induction n with
  | zero => intro l1 l2 H r hF; rw [B_M_getsTables_150] at hF; cases hF
  | succ n ih =>
    intro l1 l2 H r hF
    rw [B_M_getsTables_150] at hF
    have hm := Sa.rf H
    obtain ⟨q69, hG⟩ := ck_s hF; clear hF
    obtain ⟨a70, e71, hF⟩ := rf_s hG; clear hG
    obtain ⟨q72, hG⟩ := ck_s hF; clear hF
    obtain ⟨a73, e74, hF⟩ := rf_s hG; clear hG
    obtain ⟨n75, q76, hG⟩ := ar_s hF; clear hF
    obtain ⟨q77, hF⟩ := ck_s hG; clear hG
    obtain ⟨x78, -, hG⟩ := bnd_g hF; clear hF
    rcases ite_s hG with ⟨q_7, hF⟩ | ⟨q_7, hF⟩
    · clear hG
      exact hm.tr (hm124 (l1 + 1) H r hF)
    · clear hG
      obtain ⟨a80, e81, hG⟩ := rf_s hF; clear hF
      obtain ⟨q82, hF⟩ := ck_s hG; clear hG
      obtain ⟨a83, e84, hG⟩ := rf_s hF; clear hF
      obtain ⟨n85, q86, hF⟩ := ar_s hG; clear hG
      obtain ⟨q87, hG⟩ := ck_s hF; clear hF
      obtain ⟨x88, -, hF⟩ := bnd_g hG; clear hG
      obtain ⟨v90, H91, z89, hG⟩ := bC_s hF; clear hF
      replace hm : Sa H H91 := hm.tr (m_M_getsExactly z89)
      exact hm.tr (ih l1 (l2 + 1) H91 r hG)
set_option maxRecDepth 20000 in
set_option maxHeartbeats 2000000 in
theorem kB_M_getsTables_150 {N : Nat} {p0 : Nat} {kq124 : Int32 → Hp → Option (Unit × Hp)} (hm124 : ∀ (l1 : Int32) (H : Hp) (r : Unit × Hp), kq124 l1 H = some r → Sa H r.2) (hk124 : ∀ (l1 : Int32) (H : Hp) (r : Unit × Hp), kq124 l1 H = some r → ab_V y_M_getsTables { frames := 3, cells := 0, slots := 0, locals := 72 } (po (.returned none) r.2) 0 0 0 0 124 [some (.ref p0), some (.int l1), none] [] (hpw H)) : ∀ (n : Nat) (l1 : Int32) (l2 : Int32) (H : Hp) (r : Unit × Hp), B_M_getsTables_150 N p0 kq124 n l1 l2 H = some r → ab_V y_M_getsTables { frames := 3, cells := 0, slots := 0, locals := 72 } (po (.returned none) r.2) 0 0 0 0 150 [some (.ref p0), some (.int l1), some (.int l2)] [] (hpw H) := by
  intro n
  induction n with
  | zero => intro l1 l2 H r hF; rw [B_M_getsTables_150] at hF; cases hF
  | succ n ih =>
    intro l1 l2 H r hF
    rw [B_M_getsTables_150] at hF
    refine ab_iload_n d_M_getsTables_150 rfl rfl ?_
    refine ab_aload_n d_M_getsTables_151 rfl rfl rfl ?_
    obtain ⟨q46, hG⟩ := ck_s hF; clear hF
    obtain ⟨a47, e48, hF⟩ := rf_s hG; clear hG
    refine hp_getR (f := 3) d_M_getsTables_152 q46 (by decide) rfl (by decide) (k9 236 rfl rfl) rfl e48 ?_
    obtain ⟨q49, hG⟩ := ck_s hF; clear hF
    obtain ⟨a50, e51, hF⟩ := rf_s hG; clear hG
    refine hp_getRN (f := 23) d_M_getsTables_155 q49 (by decide) rfl (by decide) (k8 200 rfl rfl) rfl e51 ?_
    refine ab_iload_n d_M_getsTables_158 rfl rfl ?_
    obtain ⟨n52, q53, hG⟩ := ar_s hF; clear hF
    obtain ⟨q54, hF⟩ := ck_s hG; clear hG
    refine hp_iald d_M_getsTables_159 tI q53 q54 ?_
    refine ab_topi (fun x55 ex55 => ?_)
    replace hF := bnd_s ex55 hF
    refine ab_icmp_ge (tgt := 186) d_M_getsTables_160 (by decide) (fun q56 => ?_) (fun q56 => ?_)
    · rw [if_pos q56] at hF
      refine ab_iinc (v := l1 + 1) (lv' := [some (.ref p0), some (.int (l1 + 1)), some (.int l2)]) d_M_getsTables_186 rfl rfl (by decide) rfl ?_
      refine ab_goto (tgt := 124) d_M_getsTables_189 (by decide) ?_
      refine ab_le (lv' := [some (.ref p0), some (.int (l1 + 1)), none]) ⟨rfl, ⟨rfl, trivial⟩⟩ ?_
      exact hk124 (l1 + 1) H r hF
    · rw [if_neg q56] at hF
      refine ab_aload_n d_M_getsTables_163 rfl rfl rfl ?_
      refine ab_aload_n d_M_getsTables_164 rfl rfl rfl ?_
      obtain ⟨a57, e58, hG⟩ := rf_s hF; clear hF
      refine hp_getR (f := 3) d_M_getsTables_165 q46 (by decide) rfl (by decide) (k9 236 rfl rfl) rfl e58 ?_
      obtain ⟨q59, hF⟩ := ck_s hG; clear hG
      obtain ⟨a60, e61, hG⟩ := rf_s hF; clear hF
      refine hp_getRN (f := 24) d_M_getsTables_168 q59 (by decide) rfl (by decide) (k8 203 rfl rfl) rfl e61 ?_
      refine ab_iconst (v := 4) d_M_getsTables_171 (by decide) ?_
      refine ab_iload_n d_M_getsTables_172 rfl rfl ?_
      refine ab_imul d_M_getsTables_173 ?_
      refine ab_iload_n d_M_getsTables_174 rfl rfl ?_
      refine ab_iadd d_M_getsTables_175 ?_
      obtain ⟨n62, q63, hF⟩ := ar_s hG; clear hG
      obtain ⟨q64, hG⟩ := ck_s hF; clear hF
      refine hp_iald d_M_getsTables_176 tI q63 q64 ?_
      refine ab_topi (fun x65 ex65 => ?_)
      replace hG := bnd_s ex65 hG
      obtain ⟨v67, H68, z66, hF⟩ := bC_s hG; clear hG
      refine hp_callV_v (H1 := H68) (As := [.int x65]) (rest := []) d_M_getsTables_177 (k_M_getsExactly z66) (ab_mkC s_M_getsExactly (Nat.le_of_ble_eq_true rfl) (Nat.le_of_ble_eq_true rfl) (Nat.le_refl 0) (Nat.le_refl 0)) (k13 62 rfl rfl) i_M_getsExactly v_M_getsExactly q46 (by decide) rfl rfl (Nat.le_of_ble_eq_true rfl) ?_
      have s_6 : Sa H H68 := (m_M_getsExactly z66)
      refine ab_iinc (v := l2 + 1) (lv' := [some (.ref p0), some (.int l1), some (.int (l2 + 1))]) d_M_getsTables_180 rfl rfl (by decide) rfl ?_
      refine ab_goto (tgt := 150) d_M_getsTables_183 (by decide) ?_
      exact ih l1 (l2 + 1) H68 r hF
def B_M_getsTables_124 (N : Nat) (p0 : Nat) : Nat → Int32 → Hp → Option (Unit × Hp)
  | 0, _, _ => none
  | n + 1, l1, H =>
    ck (H.sh[p0]? = some (12, 0)) <|
    rf (H.P p0 3) fun a29 =>
    ck (H.sh[a29]? = some (14, 0)) <|
    bnd ((H.D a29 21)) fun x32 =>
    if x32 ≤ l1 then
    some ((), H)
    else
    rf (H.P p0 3) fun a34 =>
    ck (H.sh[a34]? = some (14, 0)) <|
    rf (H.P a34 23) fun a37 =>
    ar H 100 a37 fun n39 =>
    ck (inb l1 n39) <|
    bnd ((H.D a37 (l1).toNatClampNeg)) fun x42 =>
    bC (F_M_getsExactly N p0 x42 H) fun v44 H45 =>
    B_M_getsTables_150 N p0 (fun l1 H => B_M_getsTables_124 N p0 n l1 H) N l1 0 H45
termination_by structural n => n
set_option maxRecDepth 20000 in
set_option maxHeartbeats 2000000 in
theorem mB_M_getsTables_124 {N : Nat} {p0 : Nat} : ∀ (n : Nat) (l1 : Int32) (H : Hp) (r : Unit × Hp), B_M_getsTables_124 N p0 n l1 H = some r → Sa H r.2 := by
  intro n
  induction n with
  | zero => intro l1 H r hF; rw [B_M_getsTables_124] at hF; cases hF
  | succ n ih =>
    intro l1 H r hF
    rw [B_M_getsTables_124] at hF
    have hm := Sa.rf H
    obtain ⟨q92, hG⟩ := ck_s hF; clear hF
    obtain ⟨a93, e94, hF⟩ := rf_s hG; clear hG
    obtain ⟨q95, hG⟩ := ck_s hF; clear hF
    obtain ⟨x96, -, hF⟩ := bnd_g hG; clear hG
    rcases ite_s hF with ⟨q_9, hG⟩ | ⟨q_9, hG⟩
    · clear hF
      have hr := Option.some.inj hG; subst hr
      exact hm
    · clear hF
      obtain ⟨a98, e99, hF⟩ := rf_s hG; clear hG
      obtain ⟨q100, hG⟩ := ck_s hF; clear hF
      obtain ⟨a101, e102, hF⟩ := rf_s hG; clear hG
      obtain ⟨n103, q104, hG⟩ := ar_s hF; clear hF
      obtain ⟨q105, hF⟩ := ck_s hG; clear hG
      obtain ⟨x106, -, hG⟩ := bnd_g hF; clear hF
      obtain ⟨v108, H109, z107, hF⟩ := bC_s hG; clear hG
      replace hm : Sa H H109 := hm.tr (m_M_getsExactly z107)
      exact hm.tr (mB_M_getsTables_150 ih N l1 0 H109 r hF)
set_option maxRecDepth 20000 in
set_option maxHeartbeats 2000000 in
theorem kB_M_getsTables_124 {N : Nat} {p0 : Nat} : ∀ (n : Nat) (l1 : Int32) (H : Hp) (r : Unit × Hp), B_M_getsTables_124 N p0 n l1 H = some r → ab_V y_M_getsTables { frames := 3, cells := 0, slots := 0, locals := 72 } (po (.returned none) r.2) 0 0 0 0 124 [some (.ref p0), some (.int l1), none] [] (hpw H) := by
  intro n
  induction n with
  | zero => intro l1 H r hF; rw [B_M_getsTables_124] at hF; cases hF
  | succ n ih =>
    intro l1 H r hF
    rw [B_M_getsTables_124] at hF
    refine ab_iload_n d_M_getsTables_124 rfl rfl ?_
    refine ab_aload_n d_M_getsTables_125 rfl rfl rfl ?_
    obtain ⟨q28, hG⟩ := ck_s hF; clear hF
    obtain ⟨a29, e30, hF⟩ := rf_s hG; clear hG
    refine hp_getR (f := 3) d_M_getsTables_126 q28 (by decide) rfl (by decide) (k9 236 rfl rfl) rfl e30 ?_
    obtain ⟨q31, hG⟩ := ck_s hF; clear hF
    refine hp_getIN (f := 21) d_M_getsTables_129 q31 (by decide) rfl (by decide) (k8 195 rfl rfl) rfl ?_
    refine ab_topi (fun x32 ex32 => ?_)
    replace hG := bnd_s ex32 hG
    refine ab_icmp_ge (tgt := 192) d_M_getsTables_132 (by decide) (fun q33 => ?_) (fun q33 => ?_)
    · rw [if_pos q33] at hG
      exact ab_vret d_M_getsTables_192 rfl (Nat.le_refl _) (Nat.le_refl _) (by have hr := Option.some.inj hG; subst hr; exact ⟨rfl, rfl⟩)
    · rw [if_neg q33] at hG
      refine ab_aload_n d_M_getsTables_135 rfl rfl rfl ?_
      refine ab_aload_n d_M_getsTables_136 rfl rfl rfl ?_
      obtain ⟨a34, e35, hF⟩ := rf_s hG; clear hG
      refine hp_getR (f := 3) d_M_getsTables_137 q28 (by decide) rfl (by decide) (k9 236 rfl rfl) rfl e35 ?_
      obtain ⟨q36, hG⟩ := ck_s hF; clear hF
      obtain ⟨a37, e38, hF⟩ := rf_s hG; clear hG
      refine hp_getRN (f := 23) d_M_getsTables_140 q36 (by decide) rfl (by decide) (k8 200 rfl rfl) rfl e38 ?_
      refine ab_iload_n d_M_getsTables_143 rfl rfl ?_
      obtain ⟨n39, q40, hG⟩ := ar_s hF; clear hF
      obtain ⟨q41, hF⟩ := ck_s hG; clear hG
      refine hp_iald d_M_getsTables_144 tI q40 q41 ?_
      refine ab_topi (fun x42 ex42 => ?_)
      replace hF := bnd_s ex42 hF
      obtain ⟨v44, H45, z43, hG⟩ := bC_s hF; clear hF
      refine hp_callV_v (H1 := H45) (As := [.int x42]) (rest := []) d_M_getsTables_145 (k_M_getsExactly z43) (ab_mkC s_M_getsExactly (Nat.le_of_ble_eq_true rfl) (Nat.le_of_ble_eq_true rfl) (Nat.le_refl 0) (Nat.le_refl 0)) (k13 62 rfl rfl) i_M_getsExactly v_M_getsExactly q28 (by decide) rfl rfl (Nat.le_of_ble_eq_true rfl) ?_
      have s_5 : Sa H H45 := (m_M_getsExactly z43)
      refine ab_iconst (v := 0) d_M_getsTables_148 (by decide) ?_
      refine ab_istore_n (lv' := [some (.ref p0), some (.int l1), some (.int 0)]) d_M_getsTables_149 rfl (by decide) rfl ?_
      exact kB_M_getsTables_150 (mB_M_getsTables_124 n) ih N l1 0 H45 r hG
def B_M_getsTables_71 (N : Nat) (p0 : Nat) (kq25 : Int32 → Hp → Option (Unit × Hp)) : Nat → Int32 → Int32 → Hp → Option (Unit × Hp)
  | 0, _, _, _ => none
  | n + 1, l1, l2, H =>
    ck (H.sh[p0]? = some (12, 0)) <|
    rf (H.P p0 3) fun a141 =>
    ck (H.sh[a141]? = some (14, 0)) <|
    rf (H.P a141 18) fun a144 =>
    ar H 100 a144 fun n146 =>
    ck (inb (l1 + (1 : Int32)) n146) <|
    bnd ((H.D a144 ((l1 + (1 : Int32))).toNatClampNeg)) fun x149 =>
    if x149 ≤ l2 then
    kq25 (l1 + 1) H
    else
    rf (H.P p0 3) fun a151 =>
    ck (H.sh[a151]? = some (14, 0)) <|
    rf (H.P a151 19) fun a154 =>
    ar H 100 a154 fun n156 =>
    ck (inb l2 n156) <|
    bnd ((H.D a154 (l2).toNatClampNeg)) fun x159 =>
    bC (F_M_getsExactly N p0 x159 H) fun v161 H162 =>
    B_M_getsTables_71 N p0 kq25 n l1 (l2 + 1) H162
termination_by structural n => n
set_option maxRecDepth 20000 in
set_option maxHeartbeats 2000000 in
theorem mB_M_getsTables_71 {N : Nat} {p0 : Nat} {kq25 : Int32 → Hp → Option (Unit × Hp)} (hm25 : ∀ (l1 : Int32) (H : Hp) (r : Unit × Hp), kq25 l1 H = some r → Sa H r.2) : ∀ (n : Nat) (l1 : Int32) (l2 : Int32) (H : Hp) (r : Unit × Hp), B_M_getsTables_71 N p0 kq25 n l1 l2 H = some r → Sa H r.2 := by
  intro n
  induction n with
  | zero => intro l1 l2 H r hF; rw [B_M_getsTables_71] at hF; cases hF
  | succ n ih =>
    intro l1 l2 H r hF
    rw [B_M_getsTables_71] at hF
    have hm := Sa.rf H
    obtain ⟨q163, hG⟩ := ck_s hF; clear hF
    obtain ⟨a164, e165, hF⟩ := rf_s hG; clear hG
    obtain ⟨q166, hG⟩ := ck_s hF; clear hF
    obtain ⟨a167, e168, hF⟩ := rf_s hG; clear hG
    obtain ⟨n169, q170, hG⟩ := ar_s hF; clear hF
    obtain ⟨q171, hF⟩ := ck_s hG; clear hG
    obtain ⟨x172, -, hG⟩ := bnd_g hF; clear hF
    rcases ite_s hG with ⟨q_13, hF⟩ | ⟨q_13, hF⟩
    · clear hG
      exact hm.tr (hm25 (l1 + 1) H r hF)
    · clear hG
      obtain ⟨a174, e175, hG⟩ := rf_s hF; clear hF
      obtain ⟨q176, hF⟩ := ck_s hG; clear hG
      obtain ⟨a177, e178, hG⟩ := rf_s hF; clear hF
      obtain ⟨n179, q180, hF⟩ := ar_s hG; clear hG
      obtain ⟨q181, hG⟩ := ck_s hF; clear hF
      obtain ⟨x182, -, hF⟩ := bnd_g hG; clear hG
      obtain ⟨v184, H185, z183, hG⟩ := bC_s hF; clear hF
      replace hm : Sa H H185 := hm.tr (m_M_getsExactly z183)
      exact hm.tr (ih l1 (l2 + 1) H185 r hG)
set_option maxRecDepth 20000 in
set_option maxHeartbeats 2000000 in
theorem kB_M_getsTables_71 {N : Nat} {p0 : Nat} {kq25 : Int32 → Hp → Option (Unit × Hp)} (hm25 : ∀ (l1 : Int32) (H : Hp) (r : Unit × Hp), kq25 l1 H = some r → Sa H r.2) (hk25 : ∀ (l1 : Int32) (H : Hp) (r : Unit × Hp), kq25 l1 H = some r → ab_V y_M_getsTables { frames := 3, cells := 0, slots := 0, locals := 72 } (po (.returned none) r.2) 0 0 0 0 25 [some (.ref p0), some (.int l1), none] [] (hpw H)) : ∀ (n : Nat) (l1 : Int32) (l2 : Int32) (H : Hp) (r : Unit × Hp), B_M_getsTables_71 N p0 kq25 n l1 l2 H = some r → ab_V y_M_getsTables { frames := 3, cells := 0, slots := 0, locals := 72 } (po (.returned none) r.2) 0 0 0 0 71 [some (.ref p0), some (.int l1), some (.int l2)] [] (hpw H) := by
  intro n
  induction n with
  | zero => intro l1 l2 H r hF; rw [B_M_getsTables_71] at hF; cases hF
  | succ n ih =>
    intro l1 l2 H r hF
    rw [B_M_getsTables_71] at hF
    refine ab_iload_n d_M_getsTables_71 rfl rfl ?_
    refine ab_aload_n d_M_getsTables_72 rfl rfl rfl ?_
    obtain ⟨q140, hG⟩ := ck_s hF; clear hF
    obtain ⟨a141, e142, hF⟩ := rf_s hG; clear hG
    refine hp_getR (f := 3) d_M_getsTables_73 q140 (by decide) rfl (by decide) (k9 236 rfl rfl) rfl e142 ?_
    obtain ⟨q143, hG⟩ := ck_s hF; clear hF
    obtain ⟨a144, e145, hF⟩ := rf_s hG; clear hG
    refine hp_getRN (f := 18) d_M_getsTables_76 q143 (by decide) rfl (by decide) (k8 187 rfl rfl) rfl e145 ?_
    refine ab_iload_n d_M_getsTables_79 rfl rfl ?_
    refine ab_iconst (v := 1) d_M_getsTables_80 (by decide) ?_
    refine ab_iadd d_M_getsTables_81 ?_
    obtain ⟨n146, q147, hG⟩ := ar_s hF; clear hF
    obtain ⟨q148, hF⟩ := ck_s hG; clear hG
    refine hp_iald d_M_getsTables_82 tI q147 q148 ?_
    refine ab_topi (fun x149 ex149 => ?_)
    replace hF := bnd_s ex149 hF
    refine ab_icmp_ge (tgt := 105) d_M_getsTables_83 (by decide) (fun q150 => ?_) (fun q150 => ?_)
    · rw [if_pos q150] at hF
      refine ab_iinc (v := l1 + 1) (lv' := [some (.ref p0), some (.int (l1 + 1)), some (.int l2)]) d_M_getsTables_105 rfl rfl (by decide) rfl ?_
      refine ab_goto (tgt := 25) d_M_getsTables_108 (by decide) ?_
      refine ab_le (lv' := [some (.ref p0), some (.int (l1 + 1)), none]) ⟨rfl, ⟨rfl, trivial⟩⟩ ?_
      exact hk25 (l1 + 1) H r hF
    · rw [if_neg q150] at hF
      refine ab_aload_n d_M_getsTables_86 rfl rfl rfl ?_
      refine ab_aload_n d_M_getsTables_87 rfl rfl rfl ?_
      obtain ⟨a151, e152, hG⟩ := rf_s hF; clear hF
      refine hp_getR (f := 3) d_M_getsTables_88 q140 (by decide) rfl (by decide) (k9 236 rfl rfl) rfl e152 ?_
      obtain ⟨q153, hF⟩ := ck_s hG; clear hG
      obtain ⟨a154, e155, hG⟩ := rf_s hF; clear hF
      refine hp_getRN (f := 19) d_M_getsTables_91 q153 (by decide) rfl (by decide) (k8 191 rfl rfl) rfl e155 ?_
      refine ab_iload_n d_M_getsTables_94 rfl rfl ?_
      obtain ⟨n156, q157, hF⟩ := ar_s hG; clear hG
      obtain ⟨q158, hG⟩ := ck_s hF; clear hF
      refine hp_iald d_M_getsTables_95 tI q157 q158 ?_
      refine ab_topi (fun x159 ex159 => ?_)
      replace hG := bnd_s ex159 hG
      obtain ⟨v161, H162, z160, hF⟩ := bC_s hG; clear hG
      refine hp_callV_v (H1 := H162) (As := [.int x159]) (rest := []) d_M_getsTables_96 (k_M_getsExactly z160) (ab_mkC s_M_getsExactly (Nat.le_of_ble_eq_true rfl) (Nat.le_of_ble_eq_true rfl) (Nat.le_refl 0) (Nat.le_refl 0)) (k13 62 rfl rfl) i_M_getsExactly v_M_getsExactly q140 (by decide) rfl rfl (Nat.le_of_ble_eq_true rfl) ?_
      have s_12 : Sa H H162 := (m_M_getsExactly z160)
      refine ab_iinc (v := l2 + 1) (lv' := [some (.ref p0), some (.int l1), some (.int (l2 + 1))]) d_M_getsTables_99 rfl rfl (by decide) rfl ?_
      refine ab_goto (tgt := 71) d_M_getsTables_102 (by decide) ?_
      exact ih l1 (l2 + 1) H162 r hF
def B_M_getsTables_25 (N : Nat) (p0 : Nat) : Nat → Int32 → Hp → Option (Unit × Hp)
  | 0, _, _ => none
  | n + 1, l1, H =>
    ck (H.sh[p0]? = some (12, 0)) <|
    rf (H.P p0 3) fun a16 =>
    ck (H.sh[a16]? = some (14, 0)) <|
    bnd ((H.D a16 16)) fun x19 =>
    if x19 ≤ l1 then
    rf (H.P p0 3) fun a21 =>
    ck (H.sh[a21]? = some (14, 0)) <|
    bnd ((H.D a21 21)) fun x24 =>
    bC (F_M_getsExactly N p0 x24 H) fun v26 H27 =>
    B_M_getsTables_124 N p0 N 0 H27
    else
    rf (H.P p0 3) fun a110 =>
    ck (H.sh[a110]? = some (14, 0)) <|
    rf (H.P a110 18) fun a113 =>
    ar H 100 a113 fun n115 =>
    ck (inb (l1 + (1 : Int32)) n115) <|
    bnd ((H.D a113 ((l1 + (1 : Int32))).toNatClampNeg)) fun x118 =>
    rf (H.P p0 3) fun a119 =>
    ck (H.sh[a119]? = some (14, 0)) <|
    rf (H.P a119 18) fun a122 =>
    ar H 100 a122 fun n124 =>
    ck (inb l1 n124) <|
    bnd ((H.D a122 (l1).toNatClampNeg)) fun x127 =>
    bC (F_M_getsExactly N p0 (x118 - x127) H) fun v129 H130 =>
    rf (H130.P p0 3) fun a131 =>
    ck (H130.sh[a131]? = some (14, 0)) <|
    rf (H130.P a131 18) fun a134 =>
    ar H130 100 a134 fun n136 =>
    ck (inb l1 n136) <|
    bnd ((H130.D a134 (l1).toNatClampNeg)) fun x139 =>
    B_M_getsTables_71 N p0 (fun l1 H => B_M_getsTables_25 N p0 n l1 H) N l1 x139 H130
termination_by structural n => n
set_option maxRecDepth 20000 in
set_option maxHeartbeats 2000000 in
theorem mB_M_getsTables_25 {N : Nat} {p0 : Nat} : ∀ (n : Nat) (l1 : Int32) (H : Hp) (r : Unit × Hp), B_M_getsTables_25 N p0 n l1 H = some r → Sa H r.2 := by
  intro n
  induction n with
  | zero => intro l1 H r hF; rw [B_M_getsTables_25] at hF; cases hF
  | succ n ih =>
    intro l1 H r hF
    rw [B_M_getsTables_25] at hF
    have hm := Sa.rf H
    obtain ⟨q186, hG⟩ := ck_s hF; clear hF
    obtain ⟨a187, e188, hF⟩ := rf_s hG; clear hG
    obtain ⟨q189, hG⟩ := ck_s hF; clear hF
    obtain ⟨x190, -, hF⟩ := bnd_g hG; clear hG
    rcases ite_s hF with ⟨q_15, hG⟩ | ⟨q_15, hG⟩
    · clear hF
      obtain ⟨a192, e193, hF⟩ := rf_s hG; clear hG
      obtain ⟨q194, hG⟩ := ck_s hF; clear hF
      obtain ⟨x195, -, hF⟩ := bnd_g hG; clear hG
      obtain ⟨v197, H198, z196, hG⟩ := bC_s hF; clear hF
      replace hm : Sa H H198 := hm.tr (m_M_getsExactly z196)
      exact hm.tr (mB_M_getsTables_124 N 0 H198 r hG)
    · clear hF
      obtain ⟨a199, e200, hF⟩ := rf_s hG; clear hG
      obtain ⟨q201, hG⟩ := ck_s hF; clear hF
      obtain ⟨a202, e203, hF⟩ := rf_s hG; clear hG
      obtain ⟨n204, q205, hG⟩ := ar_s hF; clear hF
      obtain ⟨q206, hF⟩ := ck_s hG; clear hG
      obtain ⟨x207, -, hG⟩ := bnd_g hF; clear hF
      obtain ⟨a208, e209, hF⟩ := rf_s hG; clear hG
      obtain ⟨q210, hG⟩ := ck_s hF; clear hF
      obtain ⟨a211, e212, hF⟩ := rf_s hG; clear hG
      obtain ⟨n213, q214, hG⟩ := ar_s hF; clear hF
      obtain ⟨q215, hF⟩ := ck_s hG; clear hG
      obtain ⟨x216, -, hG⟩ := bnd_g hF; clear hF
      obtain ⟨v218, H219, z217, hF⟩ := bC_s hG; clear hG
      replace hm : Sa H H219 := hm.tr (m_M_getsExactly z217)
      obtain ⟨a220, e221, hG⟩ := rf_s hF; clear hF
      obtain ⟨q222, hF⟩ := ck_s hG; clear hG
      obtain ⟨a223, e224, hG⟩ := rf_s hF; clear hF
      obtain ⟨n225, q226, hF⟩ := ar_s hG; clear hG
      obtain ⟨q227, hG⟩ := ck_s hF; clear hF
      obtain ⟨x228, -, hF⟩ := bnd_g hG; clear hG
      exact hm.tr (mB_M_getsTables_71 ih N l1 x228 H219 r hF)
set_option maxRecDepth 20000 in
set_option maxHeartbeats 2000000 in
theorem kB_M_getsTables_25 {N : Nat} {p0 : Nat} : ∀ (n : Nat) (l1 : Int32) (H : Hp) (r : Unit × Hp), B_M_getsTables_25 N p0 n l1 H = some r → ab_V y_M_getsTables { frames := 3, cells := 0, slots := 0, locals := 72 } (po (.returned none) r.2) 0 0 0 0 25 [some (.ref p0), some (.int l1), none] [] (hpw H) := by
  intro n
  induction n with
  | zero => intro l1 H r hF; rw [B_M_getsTables_25] at hF; cases hF
  | succ n ih =>
    intro l1 H r hF
    rw [B_M_getsTables_25] at hF
    refine ab_iload_n d_M_getsTables_25 rfl rfl ?_
    refine ab_aload_n d_M_getsTables_26 rfl rfl rfl ?_
    obtain ⟨q15, hG⟩ := ck_s hF; clear hF
    obtain ⟨a16, e17, hF⟩ := rf_s hG; clear hG
    refine hp_getR (f := 3) d_M_getsTables_27 q15 (by decide) rfl (by decide) (k9 236 rfl rfl) rfl e17 ?_
    obtain ⟨q18, hG⟩ := ck_s hF; clear hF
    refine hp_getIN (f := 16) d_M_getsTables_30 q18 (by decide) rfl (by decide) (k8 180 rfl rfl) rfl ?_
    refine ab_topi (fun x19 ex19 => ?_)
    replace hG := bnd_s ex19 hG
    refine ab_icmp_ge (tgt := 111) d_M_getsTables_33 (by decide) (fun q20 => ?_) (fun q20 => ?_)
    · rw [if_pos q20] at hG
      refine ab_aload_n d_M_getsTables_111 rfl rfl rfl ?_
      refine ab_aload_n d_M_getsTables_112 rfl rfl rfl ?_
      obtain ⟨a21, e22, hF⟩ := rf_s hG; clear hG
      refine hp_getR (f := 3) d_M_getsTables_113 q15 (by decide) rfl (by decide) (k9 236 rfl rfl) rfl e22 ?_
      obtain ⟨q23, hG⟩ := ck_s hF; clear hF
      refine hp_getIN (f := 21) d_M_getsTables_116 q23 (by decide) rfl (by decide) (k8 195 rfl rfl) rfl ?_
      refine ab_topi (fun x24 ex24 => ?_)
      replace hG := bnd_s ex24 hG
      obtain ⟨v26, H27, z25, hF⟩ := bC_s hG; clear hG
      refine hp_callV_v (H1 := H27) (As := [.int x24]) (rest := []) d_M_getsTables_119 (k_M_getsExactly z25) (ab_mkC s_M_getsExactly (Nat.le_of_ble_eq_true rfl) (Nat.le_of_ble_eq_true rfl) (Nat.le_refl 0) (Nat.le_refl 0)) (k13 62 rfl rfl) i_M_getsExactly v_M_getsExactly q15 (by decide) rfl rfl (Nat.le_of_ble_eq_true rfl) ?_
      have s_4 : Sa H H27 := (m_M_getsExactly z25)
      refine ab_iconst (v := 0) d_M_getsTables_122 (by decide) ?_
      refine ab_istore_n (lv' := [some (.ref p0), some (.int 0), none]) d_M_getsTables_123 rfl (by decide) rfl ?_
      exact kB_M_getsTables_124 N 0 H27 r hF
    · rw [if_neg q20] at hG
      refine ab_aload_n d_M_getsTables_36 rfl rfl rfl ?_
      refine ab_aload_n d_M_getsTables_37 rfl rfl rfl ?_
      obtain ⟨a110, e111, hF⟩ := rf_s hG; clear hG
      refine hp_getR (f := 3) d_M_getsTables_38 q15 (by decide) rfl (by decide) (k9 236 rfl rfl) rfl e111 ?_
      obtain ⟨q112, hG⟩ := ck_s hF; clear hF
      obtain ⟨a113, e114, hF⟩ := rf_s hG; clear hG
      refine hp_getRN (f := 18) d_M_getsTables_41 q112 (by decide) rfl (by decide) (k8 187 rfl rfl) rfl e114 ?_
      refine ab_iload_n d_M_getsTables_44 rfl rfl ?_
      refine ab_iconst (v := 1) d_M_getsTables_45 (by decide) ?_
      refine ab_iadd d_M_getsTables_46 ?_
      obtain ⟨n115, q116, hG⟩ := ar_s hF; clear hF
      obtain ⟨q117, hF⟩ := ck_s hG; clear hG
      refine hp_iald d_M_getsTables_47 tI q116 q117 ?_
      refine ab_topi (fun x118 ex118 => ?_)
      replace hF := bnd_s ex118 hF
      refine ab_aload_n d_M_getsTables_48 rfl rfl rfl ?_
      obtain ⟨a119, e120, hG⟩ := rf_s hF; clear hF
      refine hp_getR (f := 3) d_M_getsTables_49 q15 (by decide) rfl (by decide) (k9 236 rfl rfl) rfl e120 ?_
      obtain ⟨q121, hF⟩ := ck_s hG; clear hG
      obtain ⟨a122, e123, hG⟩ := rf_s hF; clear hF
      refine hp_getRN (f := 18) d_M_getsTables_52 q121 (by decide) rfl (by decide) (k8 187 rfl rfl) rfl e123 ?_
      refine ab_iload_n d_M_getsTables_55 rfl rfl ?_
      obtain ⟨n124, q125, hF⟩ := ar_s hG; clear hG
      obtain ⟨q126, hG⟩ := ck_s hF; clear hF
      refine hp_iald d_M_getsTables_56 tI q125 q126 ?_
      refine ab_topi (fun x127 ex127 => ?_)
      replace hG := bnd_s ex127 hG
      refine ab_isub d_M_getsTables_57 ?_
      obtain ⟨v129, H130, z128, hF⟩ := bC_s hG; clear hG
      refine hp_callV_v (H1 := H130) (As := [.int (x118 - x127)]) (rest := []) d_M_getsTables_58 (k_M_getsExactly z128) (ab_mkC s_M_getsExactly (Nat.le_of_ble_eq_true rfl) (Nat.le_of_ble_eq_true rfl) (Nat.le_refl 0) (Nat.le_refl 0)) (k13 62 rfl rfl) i_M_getsExactly v_M_getsExactly q15 (by decide) rfl rfl (Nat.le_of_ble_eq_true rfl) ?_
      have s_11 : Sa H H130 := (m_M_getsExactly z128)
      refine ab_aload_n d_M_getsTables_61 rfl rfl rfl ?_
      obtain ⟨a131, e132, hG⟩ := rf_s hF; clear hF
      refine hp_getR (f := 3) d_M_getsTables_62 (by rw [(s_11).1]; exact q15) (by decide) rfl (by decide) (k9 236 rfl rfl) rfl e132 ?_
      obtain ⟨q133, hF⟩ := ck_s hG; clear hG
      rw [(s_11).1] at q133
      obtain ⟨a134, e135, hG⟩ := rf_s hF; clear hF
      refine hp_getRN (f := 18) d_M_getsTables_65 (by rw [(s_11).1]; exact q133) (by decide) rfl (by decide) (k8 187 rfl rfl) rfl e135 ?_
      refine ab_iload_n d_M_getsTables_68 rfl rfl ?_
      obtain ⟨n136, q137, hF⟩ := ar_s hG; clear hG
      rw [(s_11).1] at q137
      obtain ⟨q138, hG⟩ := ck_s hF; clear hF
      refine hp_iald d_M_getsTables_69 tI (by rw [(s_11).1]; exact q137) q138 ?_
      refine ab_topi (fun x139 ex139 => ?_)
      replace hG := bnd_s ex139 hG
      refine ab_istore_n (lv' := [some (.ref p0), some (.int l1), some (.int x139)]) d_M_getsTables_70 rfl (by decide) rfl ?_
      exact kB_M_getsTables_71 (mB_M_getsTables_25 n) ih N l1 x139 H130 r hG
def F_M_getsTables (N : Nat) (p0 : Nat) (H : Hp) : Option (Unit × Hp) :=
    ck (H.sh[p0]? = some (12, 0)) <|
    bC (F_M_getsExactly N p0 (87 : Int32) H) fun v3 H4 =>
    bC (F_M_getsExactly N p0 (69 : Int32) H4) fun v6 H7 =>
    rf (H7.P p0 3) fun a8 =>
    ck (H7.sh[a8]? = some (14, 0)) <|
    bnd ((H7.D a8 16)) fun x11 =>
    bC (F_M_getsExactly N p0 x11 H7) fun v13 H14 =>
    B_M_getsTables_25 N p0 N 0 H14
set_option maxRecDepth 20000 in
set_option maxHeartbeats 2000000 in
theorem m_M_getsTables {N : Nat} {p0 : Nat} {H : Hp} {r : Unit × Hp} (hF : F_M_getsTables N p0 H = some r) : Sa H r.2 := by
  unfold F_M_getsTables at hF
  have hm := Sa.rf H
  obtain ⟨q229, hG⟩ := ck_s hF; clear hF
  obtain ⟨v231, H232, z230, hF⟩ := bC_s hG; clear hG
  replace hm : Sa H H232 := hm.tr (m_M_getsExactly z230)
  obtain ⟨v234, H235, z233, hG⟩ := bC_s hF; clear hF
  replace hm : Sa H H235 := hm.tr (m_M_getsExactly z233)
  obtain ⟨a236, e237, hF⟩ := rf_s hG; clear hG
  obtain ⟨q238, hG⟩ := ck_s hF; clear hF
  obtain ⟨x239, -, hF⟩ := bnd_g hG; clear hG
  obtain ⟨v241, H242, z240, hG⟩ := bC_s hF; clear hF
  replace hm : Sa H H242 := hm.tr (m_M_getsExactly z240)
  exact hm.tr (mB_M_getsTables_25 N 0 H242 r hG)
set_option maxRecDepth 20000 in
set_option maxHeartbeats 2000000 in
theorem k_M_getsTables {N : Nat} {p0 : Nat} {H : Hp} {r : Unit × Hp} (hF : F_M_getsTables N p0 H = some r) : ab_M y_M_getsTables { frames := 3, cells := 0, slots := 0, locals := 72 } [.ref p0] (hpw H) (po (.returned none) r.2) := by
  unfold F_M_getsTables at hF
  refine ab_of2 (lv := [some (.ref p0), none, none]) 2 rfl rfl (Nat.le_of_ble_eq_true rfl) ?_
  refine ab_aload_n d_M_getsTables_0 rfl rfl rfl ?_
  refine ab_bipush (v := 87) d_M_getsTables_1 (by decide) ?_
  obtain ⟨q1, hG⟩ := ck_s hF; clear hF
  obtain ⟨v3, H4, z2, hF⟩ := bC_s hG; clear hG
  refine hp_callV_v (H1 := H4) (As := [.int 87]) (rest := []) d_M_getsTables_3 (k_M_getsExactly z2) (ab_mkC s_M_getsExactly (Nat.le_of_ble_eq_true rfl) (Nat.le_of_ble_eq_true rfl) (Nat.le_refl 0) (Nat.le_refl 0)) (k13 62 rfl rfl) i_M_getsExactly v_M_getsExactly q1 (by decide) rfl rfl (Nat.le_of_ble_eq_true rfl) ?_
  have s_1 : Sa H H4 := (m_M_getsExactly z2)
  refine ab_aload_n d_M_getsTables_6 rfl rfl rfl ?_
  refine ab_bipush (v := 69) d_M_getsTables_7 (by decide) ?_
  obtain ⟨v6, H7, z5, hG⟩ := bC_s hF; clear hF
  refine hp_callV_v (H1 := H7) (As := [.int 69]) (rest := []) d_M_getsTables_9 (k_M_getsExactly z5) (ab_mkC s_M_getsExactly (Nat.le_of_ble_eq_true rfl) (Nat.le_of_ble_eq_true rfl) (Nat.le_refl 0) (Nat.le_refl 0)) (k13 62 rfl rfl) i_M_getsExactly v_M_getsExactly (by rw [(s_1).1]; exact q1) (by decide) rfl rfl (Nat.le_of_ble_eq_true rfl) ?_
  have s_2 : Sa H H7 := (s_1).tr (m_M_getsExactly z5)
  refine ab_aload_n d_M_getsTables_12 rfl rfl rfl ?_
  refine ab_aload_n d_M_getsTables_13 rfl rfl rfl ?_
  obtain ⟨a8, e9, hF⟩ := rf_s hG; clear hG
  refine hp_getR (f := 3) d_M_getsTables_14 (by rw [(s_2).1]; exact q1) (by decide) rfl (by decide) (k9 236 rfl rfl) rfl e9 ?_
  obtain ⟨q10, hG⟩ := ck_s hF; clear hF
  rw [(s_2).1] at q10
  refine hp_getIN (f := 16) d_M_getsTables_17 (by rw [(s_2).1]; exact q10) (by decide) rfl (by decide) (k8 180 rfl rfl) rfl ?_
  refine ab_topi (fun x11 ex11 => ?_)
  replace hG := bnd_s ex11 hG
  obtain ⟨v13, H14, z12, hF⟩ := bC_s hG; clear hG
  refine hp_callV_v (H1 := H14) (As := [.int x11]) (rest := []) d_M_getsTables_20 (k_M_getsExactly z12) (ab_mkC s_M_getsExactly (Nat.le_of_ble_eq_true rfl) (Nat.le_of_ble_eq_true rfl) (Nat.le_refl 0) (Nat.le_refl 0)) (k13 62 rfl rfl) i_M_getsExactly v_M_getsExactly (by rw [(s_2).1]; exact q1) (by decide) rfl rfl (Nat.le_of_ble_eq_true rfl) ?_
  have s_3 : Sa H H14 := (s_2).tr (m_M_getsExactly z12)
  refine ab_iconst (v := 0) d_M_getsTables_23 (by decide) ?_
  refine ab_istore_n (lv' := [some (.ref p0), some (.int 0), none]) d_M_getsTables_24 rfl (by decide) rfl ?_
  exact kB_M_getsTables_25 N 0 H14 r hF
def y_M_getsOf : ab_Y := (⟨"WorldEngineModel", "getsOf", "(I)I"⟩, prog_14_method_51_code, 2, (some FieldType.int), [])
theorem d_M_getsOf_0 : decode y_M_getsOf.2.1 0 = .ok (.iload_n 1, 1) := by decide +kernel
theorem d_M_getsOf_1 : decode y_M_getsOf.2.1 1 = .ok (.iconst 1, 1) := by decide +kernel
theorem d_M_getsOf_2 : decode y_M_getsOf.2.1 2 = .ok (.if_icmp .ne 13, 3) := by decide +kernel
theorem d_M_getsOf_5 : decode y_M_getsOf.2.1 5 = .ok (.aload_n 0, 1) := by decide +kernel
theorem d_M_getsOf_6 : decode y_M_getsOf.2.1 6 = .ok (.iconst 4, 1) := by decide +kernel
theorem d_M_getsOf_7 : decode y_M_getsOf.2.1 7 = .ok (.bipush (-128), 2) := by decide +kernel
theorem d_M_getsOf_9 : decode y_M_getsOf.2.1 9 = .ok (.bipush 127, 2) := by decide +kernel
theorem d_M_getsOf_11 : decode y_M_getsOf.2.1 11 = .ok (.invokevirtual 359, 3) := by decide +kernel
theorem d_M_getsOf_14 : decode y_M_getsOf.2.1 14 = .ok (.ireturn, 1) := by decide +kernel
theorem d_M_getsOf_15 : decode y_M_getsOf.2.1 15 = .ok (.iload_n 1, 1) := by decide +kernel
theorem d_M_getsOf_16 : decode y_M_getsOf.2.1 16 = .ok (.iconst 3, 1) := by decide +kernel
theorem d_M_getsOf_17 : decode y_M_getsOf.2.1 17 = .ok (.if_icmp .ne 11, 3) := by decide +kernel
theorem d_M_getsOf_20 : decode y_M_getsOf.2.1 20 = .ok (.aload_n 0, 1) := by decide +kernel
theorem d_M_getsOf_21 : decode y_M_getsOf.2.1 21 = .ok (.iconst 4, 1) := by decide +kernel
theorem d_M_getsOf_22 : decode y_M_getsOf.2.1 22 = .ok (.iconst 0, 1) := by decide +kernel
theorem d_M_getsOf_23 : decode y_M_getsOf.2.1 23 = .ok (.iconst 1, 1) := by decide +kernel
theorem d_M_getsOf_24 : decode y_M_getsOf.2.1 24 = .ok (.invokevirtual 359, 3) := by decide +kernel
theorem d_M_getsOf_27 : decode y_M_getsOf.2.1 27 = .ok (.ireturn, 1) := by decide +kernel
theorem d_M_getsOf_28 : decode y_M_getsOf.2.1 28 = .ok (.aload_n 0, 1) := by decide +kernel
theorem d_M_getsOf_29 : decode y_M_getsOf.2.1 29 = .ok (.iconst 4, 1) := by decide +kernel
theorem d_M_getsOf_30 : decode y_M_getsOf.2.1 30 = .ok (.iload_n 1, 1) := by decide +kernel
theorem d_M_getsOf_31 : decode y_M_getsOf.2.1 31 = .ok (.iconst 4, 1) := by decide +kernel
theorem d_M_getsOf_32 : decode y_M_getsOf.2.1 32 = .ok (.if_icmp .ne 7, 3) := by decide +kernel
theorem d_M_getsOf_35 : decode y_M_getsOf.2.1 35 = .ok (.iconst (-1), 1) := by decide +kernel
theorem d_M_getsOf_36 : decode y_M_getsOf.2.1 36 = .ok (.goto 6, 3) := by decide +kernel
theorem d_M_getsOf_39 : decode y_M_getsOf.2.1 39 = .ok (.ldc_w 362, 3) := by decide +kernel
theorem d_M_getsOf_42 : decode y_M_getsOf.2.1 42 = .ok (.ldc_w 363, 3) := by decide +kernel
theorem d_M_getsOf_45 : decode y_M_getsOf.2.1 45 = .ok (.invokevirtual 359, 3) := by decide +kernel
theorem d_M_getsOf_48 : decode y_M_getsOf.2.1 48 = .ok (.ireturn, 1) := by decide +kernel
theorem s_M_getsOf : ab_Stat y_M_getsOf 1 := ⟨(k13 80 rfl rfl), (k1 19 rfl rfl), ⟨by decide, by decide⟩, by decide +kernel⟩
theorem i_M_getsOf : Cond.instanceMethod y_M_getsOf.1 ∈ ab_T := (k13 79 rfl rfl)
theorem v_M_getsOf : Cond.selects "WorldEngineModel" y_M_getsOf.1 y_M_getsOf.1 ∈ ab_T := ab_s (List.mem_of_getElem? (i := 215) rfl) rfl
def B_M_getsOf_42 (N : Nat) (p0 : Nat) (p1 : Int32) (w0 : Nat) (w1 : Int32) (w2 : Int32) (H : Hp) : Option (Int32 × Hp) :=
    ck (H.sh[w0]? = some (12, 0)) <|
    bC (F_M_gets N w0 w1 w2 (2147483647 : Int32) H) fun v6 H7 =>
    some (v6, H7)
set_option maxRecDepth 20000 in
set_option maxHeartbeats 2000000 in
theorem mB_M_getsOf_42 {N : Nat} {p0 : Nat} {p1 : Int32} {w0 : Nat} {w1 : Int32} {w2 : Int32} {H : Hp} {r : Int32 × Hp} (hF : B_M_getsOf_42 N p0 p1 w0 w1 w2 H = some r) : Sa H r.2 := by
  unfold B_M_getsOf_42 at hF
  have hm := Sa.rf H
  obtain ⟨q8, hG⟩ := ck_s hF; clear hF
  obtain ⟨v10, H11, z9, hF⟩ := bC_s hG; clear hG
  replace hm : Sa H H11 := hm.tr (m_M_gets z9)
  have hr := Option.some.inj hF; subst hr
  exact hm
set_option maxRecDepth 20000 in
set_option maxHeartbeats 2000000 in
theorem kB_M_getsOf_42 {N : Nat} {p0 : Nat} {p1 : Int32} {w0 : Nat} {w1 : Int32} {w2 : Int32} {H : Hp} {r : Int32 × Hp} (hF : B_M_getsOf_42 N p0 p1 w0 w1 w2 H = some r) : ab_V y_M_getsOf { frames := 2, cells := 0, slots := 0, locals := 50 } (po (.returned (some (.int r.1))) r.2) 0 0 0 0 42 [some (.ref p0), some (.int p1)] [.int w2, .int w1, .ref w0] (hpw H) := by
  unfold B_M_getsOf_42 at hF
  refine ab_ldcw d_M_getsOf_42 (k13 71 rfl rfl) ?_
  obtain ⟨q4, hG⟩ := ck_s hF; clear hF
  obtain ⟨v6, H7, z5, hF⟩ := bC_s hG; clear hG
  refine hp_callV_a (v := .int v6) (H1 := H7) (As := [.int w1, .int w2, .int 2147483647]) (rest := []) d_M_getsOf_45 (k_M_gets z5) (ab_mkC s_M_gets (Nat.le_of_ble_eq_true rfl) (Nat.le_of_ble_eq_true rfl) (Nat.le_refl 0) (Nat.le_refl 0)) (k13 66 rfl rfl) i_M_gets v_M_gets q4 (by decide) rfl rfl (Nat.le_of_ble_eq_true rfl) ?_
  have s_1 : Sa H H7 := (m_M_gets z5)
  exact ab_iret d_M_getsOf_48 rfl (Nat.le_refl _) (Nat.le_refl _) (by have hr := Option.some.inj hF; subst hr; exact ⟨rfl, rfl⟩)
def F_M_getsOf (N : Nat) (p0 : Nat) (p1 : Int32) (H : Hp) : Option (Int32 × Hp) :=
    if p1 = (1 : Int32) then
    ck (H.sh[p0]? = some (12, 0)) <|
    bC (F_M_gets N p0 (4 : Int32) ((-128) : Int32) (127 : Int32) H) fun v18 H19 =>
    some (v18, H19)
    else
    if p1 = (3 : Int32) then
    ck (H.sh[p0]? = some (12, 0)) <|
    bC (F_M_gets N p0 (4 : Int32) (0 : Int32) (1 : Int32) H) fun v14 H15 =>
    some (v14, H15)
    else
    if p1 = (4 : Int32) then
    B_M_getsOf_42 N p0 p1 p0 4 (-1) H
    else
    B_M_getsOf_42 N p0 p1 p0 4 (-2147483648) H
set_option maxRecDepth 20000 in
set_option maxHeartbeats 2000000 in
theorem m_M_getsOf {N : Nat} {p0 : Nat} {p1 : Int32} {H : Hp} {r : Int32 × Hp} (hF : F_M_getsOf N p0 p1 H = some r) : Sa H r.2 := by
  unfold F_M_getsOf at hF
  have hm := Sa.rf H
  rcases ite_s hF with ⟨q_5, hG⟩ | ⟨q_5, hG⟩
  · clear hF
    obtain ⟨q21, hF⟩ := ck_s hG; clear hG
    obtain ⟨v23, H24, z22, hG⟩ := bC_s hF; clear hF
    replace hm : Sa H H24 := hm.tr (m_M_gets z22)
    have hr := Option.some.inj hG; subst hr
    exact hm
  · clear hF
    rcases ite_s hG with ⟨q_7, hF⟩ | ⟨q_7, hF⟩
    · clear hG
      obtain ⟨q26, hG⟩ := ck_s hF; clear hF
      obtain ⟨v28, H29, z27, hF⟩ := bC_s hG; clear hG
      replace hm : Sa H H29 := hm.tr (m_M_gets z27)
      have hr := Option.some.inj hF; subst hr
      exact hm
    · clear hG
      rcases ite_s hF with ⟨q_9, hG⟩ | ⟨q_9, hG⟩
      · clear hF
        exact hm.tr (mB_M_getsOf_42 hG)
      · clear hF
        exact hm.tr (mB_M_getsOf_42 hG)
set_option maxRecDepth 20000 in
set_option maxHeartbeats 2000000 in
theorem k_M_getsOf {N : Nat} {p0 : Nat} {p1 : Int32} {H : Hp} {r : Int32 × Hp} (hF : F_M_getsOf N p0 p1 H = some r) : ab_M y_M_getsOf { frames := 2, cells := 0, slots := 0, locals := 50 } [.ref p0, .int p1] (hpw H) (po (.returned (some (.int r.1))) r.2) := by
  unfold F_M_getsOf at hF
  refine ab_of2 (lv := [some (.ref p0), some (.int p1)]) 0 rfl rfl (Nat.le_of_ble_eq_true rfl) ?_
  refine ab_iload_n d_M_getsOf_0 rfl rfl ?_
  refine ab_iconst (v := 1) d_M_getsOf_1 (by decide) ?_
  refine ab_icmp_ne (tgt := 15) d_M_getsOf_2 (by decide) (fun q1 => ?_) (fun q1 => ?_)
  · rw [if_neg q1] at hF
    refine ab_iload_n d_M_getsOf_15 rfl rfl ?_
    refine ab_iconst (v := 3) d_M_getsOf_16 (by decide) ?_
    refine ab_icmp_ne (tgt := 28) d_M_getsOf_17 (by decide) (fun q2 => ?_) (fun q2 => ?_)
    · rw [if_neg q2] at hF
      refine ab_aload_n d_M_getsOf_28 rfl rfl rfl ?_
      refine ab_iconst (v := 4) d_M_getsOf_29 (by decide) ?_
      refine ab_iload_n d_M_getsOf_30 rfl rfl ?_
      refine ab_iconst (v := 4) d_M_getsOf_31 (by decide) ?_
      refine ab_icmp_ne (tgt := 39) d_M_getsOf_32 (by decide) (fun q3 => ?_) (fun q3 => ?_)
      · rw [if_neg q3] at hF
        refine ab_ldcw d_M_getsOf_39 (k13 70 rfl rfl) ?_
        exact kB_M_getsOf_42 hF
      · rw [if_pos q3] at hF
        refine ab_iconst (v := (-1)) d_M_getsOf_35 (by decide) ?_
        refine ab_goto (tgt := 42) d_M_getsOf_36 (by decide) ?_
        exact kB_M_getsOf_42 hF
    · rw [if_pos q2] at hF
      refine ab_aload_n d_M_getsOf_20 rfl rfl rfl ?_
      refine ab_iconst (v := 4) d_M_getsOf_21 (by decide) ?_
      refine ab_iconst (v := 0) d_M_getsOf_22 (by decide) ?_
      refine ab_iconst (v := 1) d_M_getsOf_23 (by decide) ?_
      obtain ⟨q12, hG⟩ := ck_s hF; clear hF
      obtain ⟨v14, H15, z13, hF⟩ := bC_s hG; clear hG
      refine hp_callV_a (v := .int v14) (H1 := H15) (As := [.int 4, .int 0, .int 1]) (rest := []) d_M_getsOf_24 (k_M_gets z13) (ab_mkC s_M_gets (Nat.le_of_ble_eq_true rfl) (Nat.le_of_ble_eq_true rfl) (Nat.le_refl 0) (Nat.le_refl 0)) (k13 66 rfl rfl) i_M_gets v_M_gets q12 (by decide) rfl rfl (Nat.le_of_ble_eq_true rfl) ?_
      have s_3 : Sa H H15 := (m_M_gets z13)
      exact ab_iret d_M_getsOf_27 rfl (Nat.le_refl _) (Nat.le_refl _) (by have hr := Option.some.inj hF; subst hr; exact ⟨rfl, rfl⟩)
  · rw [if_pos q1] at hF
    refine ab_aload_n d_M_getsOf_5 rfl rfl rfl ?_
    refine ab_iconst (v := 4) d_M_getsOf_6 (by decide) ?_
    refine ab_bipush (v := (-128)) d_M_getsOf_7 (by decide) ?_
    refine ab_bipush (v := 127) d_M_getsOf_9 (by decide) ?_
    obtain ⟨q16, hG⟩ := ck_s hF; clear hF
    obtain ⟨v18, H19, z17, hF⟩ := bC_s hG; clear hG
    refine hp_callV_a (v := .int v18) (H1 := H19) (As := [.int 4, .int (-128), .int 127]) (rest := []) d_M_getsOf_11 (k_M_gets z17) (ab_mkC s_M_gets (Nat.le_of_ble_eq_true rfl) (Nat.le_of_ble_eq_true rfl) (Nat.le_refl 0) (Nat.le_refl 0)) (k13 66 rfl rfl) i_M_gets v_M_gets q16 (by decide) rfl rfl (Nat.le_of_ble_eq_true rfl) ?_
    have s_4 : Sa H H19 := (m_M_gets z17)
    exact ab_iret d_M_getsOf_14 rfl (Nat.le_refl _) (Nat.le_refl _) (by have hr := Option.some.inj hF; subst hr; exact ⟨rfl, rfl⟩)
