def y_MRunner_commanded : ab_Y := (⟨"WorldEngineModel$Runner", "commanded", "(I)I"⟩, prog_15_method_16_code, 3, (some FieldType.int), [])
theorem d_MRunner_commanded_0 : decode y_MRunner_commanded.2.1 0 = .ok (.aload_n 0, 1) := by decide +kernel
theorem d_MRunner_commanded_1 : decode y_MRunner_commanded.2.1 1 = .ok (.getfield 96, 3) := by decide +kernel
theorem d_MRunner_commanded_4 : decode y_MRunner_commanded.2.1 4 = .ok (.ifCond .ne 23, 3) := by decide +kernel
theorem d_MRunner_commanded_7 : decode y_MRunner_commanded.2.1 7 = .ok (.aload_n 0, 1) := by decide +kernel
theorem d_MRunner_commanded_8 : decode y_MRunner_commanded.2.1 8 = .ok (.getfield 56, 3) := by decide +kernel
theorem d_MRunner_commanded_11 : decode y_MRunner_commanded.2.1 11 = .ok (.aload_n 0, 1) := by decide +kernel
theorem d_MRunner_commanded_12 : decode y_MRunner_commanded.2.1 12 = .ok (.getfield 87, 3) := by decide +kernel
theorem d_MRunner_commanded_15 : decode y_MRunner_commanded.2.1 15 = .ok (.isub, 1) := by decide +kernel
theorem d_MRunner_commanded_16 : decode y_MRunner_commanded.2.1 16 = .ok (.bipush 8, 2) := by decide +kernel
theorem d_MRunner_commanded_18 : decode y_MRunner_commanded.2.1 18 = .ok (.if_icmp .ne 9, 3) := by decide +kernel
theorem d_MRunner_commanded_21 : decode y_MRunner_commanded.2.1 21 = .ok (.aload_n 0, 1) := by decide +kernel
theorem d_MRunner_commanded_22 : decode y_MRunner_commanded.2.1 22 = .ok (.bipush 6, 2) := by decide +kernel
theorem d_MRunner_commanded_24 : decode y_MRunner_commanded.2.1 24 = .ok (.invokevirtual 118, 3) := by decide +kernel
theorem d_MRunner_commanded_27 : decode y_MRunner_commanded.2.1 27 = .ok (.aload_n 0, 1) := by decide +kernel
theorem d_MRunner_commanded_28 : decode y_MRunner_commanded.2.1 28 = .ok (.getfield 96, 3) := by decide +kernel
theorem d_MRunner_commanded_31 : decode y_MRunner_commanded.2.1 31 = .ok (.ifCond .le 5, 3) := by decide +kernel
theorem d_MRunner_commanded_34 : decode y_MRunner_commanded.2.1 34 = .ok (.iconst (-1), 1) := by decide +kernel
theorem d_MRunner_commanded_35 : decode y_MRunner_commanded.2.1 35 = .ok (.ireturn, 1) := by decide +kernel
theorem d_MRunner_commanded_36 : decode y_MRunner_commanded.2.1 36 = .ok (.bipush 12, 2) := by decide +kernel
theorem d_MRunner_commanded_38 : decode y_MRunner_commanded.2.1 38 = .ok (.aload_n 0, 1) := by decide +kernel
theorem d_MRunner_commanded_39 : decode y_MRunner_commanded.2.1 39 = .ok (.getfield 56, 3) := by decide +kernel
theorem d_MRunner_commanded_42 : decode y_MRunner_commanded.2.1 42 = .ok (.imul, 1) := by decide +kernel
theorem d_MRunner_commanded_43 : decode y_MRunner_commanded.2.1 43 = .ok (.istore_n 2, 1) := by decide +kernel
theorem d_MRunner_commanded_44 : decode y_MRunner_commanded.2.1 44 = .ok (.aload_n 0, 1) := by decide +kernel
theorem d_MRunner_commanded_45 : decode y_MRunner_commanded.2.1 45 = .ok (.dup, 1) := by decide +kernel
theorem d_MRunner_commanded_46 : decode y_MRunner_commanded.2.1 46 = .ok (.getfield 56, 3) := by decide +kernel
theorem d_MRunner_commanded_49 : decode y_MRunner_commanded.2.1 49 = .ok (.iconst 1, 1) := by decide +kernel
theorem d_MRunner_commanded_50 : decode y_MRunner_commanded.2.1 50 = .ok (.iadd, 1) := by decide +kernel
theorem d_MRunner_commanded_51 : decode y_MRunner_commanded.2.1 51 = .ok (.putfield 56, 3) := by decide +kernel
theorem d_MRunner_commanded_54 : decode y_MRunner_commanded.2.1 54 = .ok (.aload_n 0, 1) := by decide +kernel
theorem d_MRunner_commanded_55 : decode y_MRunner_commanded.2.1 55 = .ok (.getfield 12, 3) := by decide +kernel
theorem d_MRunner_commanded_58 : decode y_MRunner_commanded.2.1 58 = .ok (.iload_n 2, 1) := by decide +kernel
theorem d_MRunner_commanded_59 : decode y_MRunner_commanded.2.1 59 = .ok (.iload_n 1, 1) := by decide +kernel
theorem d_MRunner_commanded_60 : decode y_MRunner_commanded.2.1 60 = .ok (.iastore, 1) := by decide +kernel
theorem d_MRunner_commanded_61 : decode y_MRunner_commanded.2.1 61 = .ok (.iload_n 2, 1) := by decide +kernel
theorem d_MRunner_commanded_62 : decode y_MRunner_commanded.2.1 62 = .ok (.ireturn, 1) := by decide +kernel
theorem s_MRunner_commanded : ab_Stat y_MRunner_commanded 1 := ⟨(k12 119 rfl rfl), (k1 22 rfl rfl), ⟨by decide, by decide⟩, by decide +kernel⟩
theorem i_MRunner_commanded : Cond.instanceMethod y_MRunner_commanded.1 ∈ ab_T := (k12 118 rfl rfl)
theorem v_MRunner_commanded : Cond.selects "WorldEngineModel$Runner" y_MRunner_commanded.1 y_MRunner_commanded.1 ∈ ab_T := ab_s (List.mem_of_getElem? (i := 201) rfl) rfl
def B_MRunner_commanded_27 (N : Nat) (p0 : Nat) (p1 : Int32)  (H : Hp) : Option (Int32 × Hp) :=
    ck (H.sh[p0]? = some (15, 0)) <|
    bnd ((H.D p0 10)) fun x5 =>
    if x5 ≤ (0 : Int32) then
    bnd ((H.D p0 4)) fun x7 =>
    bnd (((12 : Int32) * x7)) fun x8 =>
    bnd ((H.D p0 4)) fun x9 =>
    bnd (H.sD p0 4 (x9 + (1 : Int32))) fun H10 =>
    rf (H10.P p0 3) fun a11 =>
    ar H10 100 a11 fun n13 =>
    ck (inb x8 n13) <|
    bnd (H10.sD a11 (x8).toNatClampNeg p1) fun H16 =>
    some (x8, H16)
    else
    some ((-1), H)
set_option maxRecDepth 20000 in
set_option maxHeartbeats 2000000 in
theorem mB_MRunner_commanded_27 {N : Nat} {p0 : Nat} {p1 : Int32}  {H : Hp} {r : Int32 × Hp} (hF : B_MRunner_commanded_27 N p0 p1  H = some r) : Sa H r.2 := by
  unfold B_MRunner_commanded_27 at hF
  have hm := Sa.rf H
  obtain ⟨q17, hG⟩ := ck_s hF; clear hF
  obtain ⟨x18, -, hF⟩ := bnd_g hG; clear hG
  rcases ite_s hF with ⟨q_3, hG⟩ | ⟨q_3, hG⟩
  · clear hF
    obtain ⟨x20, -, hF⟩ := bnd_g hG; clear hG
    obtain ⟨x21, -, hG⟩ := bnd_g hF; clear hF
    obtain ⟨x22, -, hF⟩ := bnd_g hG; clear hG
    obtain ⟨H23, eH23, hG⟩ := bnd_g hF; clear hF
    replace hm : Sa H H23 := by rw [eH23]; exact hm
    obtain ⟨a24, e25, hF⟩ := rf_s hG; clear hG
    obtain ⟨n26, q27, hG⟩ := ar_s hF; clear hF
    obtain ⟨q28, hF⟩ := ck_s hG; clear hG
    obtain ⟨H29, eH29, hG⟩ := bnd_g hF; clear hF
    replace hm : Sa H H29 := by rw [eH29]; exact hm
    have hr := Option.some.inj hG; subst hr
    exact hm
  · clear hF
    have hr := Option.some.inj hG; subst hr
    exact hm
set_option maxRecDepth 20000 in
set_option maxHeartbeats 2000000 in
theorem kB_MRunner_commanded_27 {N : Nat} {p0 : Nat} {p1 : Int32}  {H : Hp} {r : Int32 × Hp} (hF : B_MRunner_commanded_27 N p0 p1  H = some r) : ab_V y_MRunner_commanded { frames := 1, cells := 0, slots := 0, locals := 21 } (po (.returned (some (.int r.1))) r.2) 0 0 0 0 27 [some (.ref p0), some (.int p1), none] [] (hpw H) := by
  unfold B_MRunner_commanded_27 at hF
  refine ab_aload_n d_MRunner_commanded_27 rfl rfl rfl ?_
  obtain ⟨q4, hG⟩ := ck_s hF; clear hF
  refine hp_getI (f := 10) d_MRunner_commanded_28 q4 (by decide) rfl (by decide) (k9 193 rfl rfl) rfl ?_
  refine ab_topi (fun x5 ex5 => ?_)
  replace hG := bnd_s ex5 hG
  refine ab_if_le (tgt := 36) d_MRunner_commanded_31 (by decide) (fun q6 => ?_) (fun q6 => ?_)
  · rw [if_pos q6] at hG
    refine ab_bipush (v := 12) d_MRunner_commanded_36 (by decide) ?_
    refine ab_aload_n d_MRunner_commanded_38 rfl rfl rfl ?_
    refine hp_getI (f := 4) d_MRunner_commanded_39 q4 (by decide) rfl (by decide) (k9 187 rfl rfl) rfl ?_
    refine ab_topi (fun x7 ex7 => ?_)
    replace hG := bnd_s ex7 hG
    refine ab_imul d_MRunner_commanded_42 ?_
    refine ab_topi (fun x8 ex8 => ?_)
    replace hG := bnd_s ex8 hG
    refine ab_istore_n (lv' := [some (.ref p0), some (.int p1), some (.int x8)]) d_MRunner_commanded_43 rfl (by decide) rfl ?_
    refine ab_aload_n d_MRunner_commanded_44 rfl rfl rfl ?_
    refine ab_dup d_MRunner_commanded_45 rfl ?_
    refine hp_getI (f := 4) d_MRunner_commanded_46 q4 (by decide) rfl (by decide) (k9 187 rfl rfl) rfl ?_
    refine ab_topi (fun x9 ex9 => ?_)
    replace hG := bnd_s ex9 hG
    refine ab_iconst (v := 1) d_MRunner_commanded_49 (by decide) ?_
    refine ab_iadd d_MRunner_commanded_50 ?_
    refine hp_putI (v := x9 + (1 : Int32)) (f := 4) d_MRunner_commanded_51 q4 (by decide) rfl (by decide) (k9 187 rfl rfl) rfl rfl (fun _ => rfl) (fun _ => rfl) rfl ?_
    refine hp_gen (fun H10 eH10 => ?_)
    replace hG := bnd_s eH10 hG
    have s_1 : Sa H H10 := by rw [eH10]; exact Sa.rf _
    refine ab_aload_n d_MRunner_commanded_54 rfl rfl rfl ?_
    obtain ⟨a11, e12, hF⟩ := rf_s hG; clear hG
    refine hp_getR (f := 3) d_MRunner_commanded_55 (by rw [(s_1).1]; exact q4) (by decide) rfl (by decide) (k9 186 rfl rfl) rfl e12 ?_
    refine ab_iload_n d_MRunner_commanded_58 rfl rfl ?_
    refine ab_iload_n d_MRunner_commanded_59 rfl rfl ?_
    obtain ⟨n13, q14, hG⟩ := ar_s hF; clear hF
    rw [(s_1).1] at q14
    obtain ⟨q15, hF⟩ := ck_s hG; clear hG
    refine hp_iast d_MRunner_commanded_60 tI (by rw [(s_1).1]; exact q14) q15 ?_
    refine hp_gen (fun H16 eH16 => ?_)
    replace hF := bnd_s eH16 hF
    have s_2 : Sa H H16 := by rw [eH16]; exact s_1
    refine ab_iload_n d_MRunner_commanded_61 rfl rfl ?_
    exact ab_iret d_MRunner_commanded_62 rfl (Nat.le_refl _) (Nat.le_refl _) (by have hr := Option.some.inj hF; subst hr; exact ⟨rfl, rfl⟩)
  · rw [if_neg q6] at hG
    refine ab_iconst (v := (-1)) d_MRunner_commanded_34 (by decide) ?_
    exact ab_iret d_MRunner_commanded_35 rfl (Nat.le_refl _) (Nat.le_refl _) (by have hr := Option.some.inj hG; subst hr; exact ⟨rfl, rfl⟩)
def F_MRunner_commanded (N : Nat) (p0 : Nat) (p1 : Int32) (H : Hp) : Option (Int32 × Hp) :=
    ck (H.sh[p0]? = some (15, 0)) <|
    bnd ((H.D p0 10)) fun x2 =>
    if x2 = (0 : Int32) then
    bnd ((H.D p0 4)) fun x30 =>
    bnd ((H.D p0 7)) fun x31 =>
    if (x30 - x31) = (8 : Int32) then
    bC (F_MRunner_fails N p0 (6 : Int32) H) fun v34 H35 =>
    B_MRunner_commanded_27 N p0 p1  H35
    else
    B_MRunner_commanded_27 N p0 p1  H
    else
    B_MRunner_commanded_27 N p0 p1  H
set_option maxRecDepth 20000 in
set_option maxHeartbeats 2000000 in
theorem m_MRunner_commanded {N : Nat} {p0 : Nat} {p1 : Int32} {H : Hp} {r : Int32 × Hp} (hF : F_MRunner_commanded N p0 p1 H = some r) : Sa H r.2 := by
  unfold F_MRunner_commanded at hF
  have hm := Sa.rf H
  obtain ⟨q36, hG⟩ := ck_s hF; clear hF
  obtain ⟨x37, -, hF⟩ := bnd_g hG; clear hG
  rcases ite_s hF with ⟨q_7, hG⟩ | ⟨q_7, hG⟩
  · clear hF
    obtain ⟨x39, -, hF⟩ := bnd_g hG; clear hG
    obtain ⟨x40, -, hG⟩ := bnd_g hF; clear hF
    rcases ite_s hG with ⟨q_8, hF⟩ | ⟨q_8, hF⟩
    · clear hG
      obtain ⟨v43, H44, z42, hG⟩ := bC_s hF; clear hF
      replace hm : Sa H H44 := hm.tr (m_MRunner_fails z42)
      exact hm.tr (mB_MRunner_commanded_27 hG)
    · clear hG
      exact hm.tr (mB_MRunner_commanded_27 hF)
  · clear hF
    exact hm.tr (mB_MRunner_commanded_27 hG)
set_option maxRecDepth 20000 in
set_option maxHeartbeats 2000000 in
theorem k_MRunner_commanded {N : Nat} {p0 : Nat} {p1 : Int32} {H : Hp} {r : Int32 × Hp} (hF : F_MRunner_commanded N p0 p1 H = some r) : ab_M y_MRunner_commanded { frames := 1, cells := 0, slots := 0, locals := 21 } [.ref p0, .int p1] (hpw H) (po (.returned (some (.int r.1))) r.2) := by
  unfold F_MRunner_commanded at hF
  refine ab_of2 (lv := [some (.ref p0), some (.int p1), none]) 1 rfl rfl (Nat.le_of_ble_eq_true rfl) ?_
  refine ab_aload_n d_MRunner_commanded_0 rfl rfl rfl ?_
  obtain ⟨q1, hG⟩ := ck_s hF; clear hF
  refine hp_getI (f := 10) d_MRunner_commanded_1 q1 (by decide) rfl (by decide) (k9 193 rfl rfl) rfl ?_
  refine ab_topi (fun x2 ex2 => ?_)
  replace hG := bnd_s ex2 hG
  refine ab_if_ne (tgt := 27) d_MRunner_commanded_4 (by decide) (fun q3 => ?_) (fun q3 => ?_)
  · rw [if_neg q3] at hG
    exact kB_MRunner_commanded_27 hG
  · rw [if_pos q3] at hG
    refine ab_aload_n d_MRunner_commanded_7 rfl rfl rfl ?_
    refine hp_getI (f := 4) d_MRunner_commanded_8 q1 (by decide) rfl (by decide) (k9 187 rfl rfl) rfl ?_
    refine ab_topi (fun x30 ex30 => ?_)
    replace hG := bnd_s ex30 hG
    refine ab_aload_n d_MRunner_commanded_11 rfl rfl rfl ?_
    refine hp_getI (f := 7) d_MRunner_commanded_12 q1 (by decide) rfl (by decide) (k9 190 rfl rfl) rfl ?_
    refine ab_topi (fun x31 ex31 => ?_)
    replace hG := bnd_s ex31 hG
    refine ab_isub d_MRunner_commanded_15 ?_
    refine ab_bipush (v := 8) d_MRunner_commanded_16 (by decide) ?_
    refine ab_icmp_ne (tgt := 27) d_MRunner_commanded_18 (by decide) (fun q32 => ?_) (fun q32 => ?_)
    · rw [if_neg q32] at hG
      exact kB_MRunner_commanded_27 hG
    · rw [if_pos q32] at hG
      refine ab_aload_n d_MRunner_commanded_21 rfl rfl rfl ?_
      refine ab_bipush (v := 6) d_MRunner_commanded_22 (by decide) ?_
      obtain ⟨v34, H35, z33, hF⟩ := bC_s hG; clear hG
      refine hp_callV_v (H1 := H35) (As := [.int 6]) (rest := []) d_MRunner_commanded_24 (k_MRunner_fails z33) (ab_mkC s_MRunner_fails (Nat.le_of_ble_eq_true rfl) (Nat.le_of_ble_eq_true rfl) (Nat.le_refl 0) (Nat.le_refl 0)) (k12 2 rfl rfl) i_MRunner_fails v_MRunner_fails q1 (by decide) rfl rfl (Nat.le_of_ble_eq_true rfl) ?_
      have s_6 : Sa H H35 := (m_MRunner_fails z33)
      exact kB_MRunner_commanded_27 hF
def y_MRunner_spawns : ab_Y := (⟨"WorldEngineModel$Runner", "spawns", "()V"⟩, prog_15_method_17_code, 11, none, [])
theorem d_MRunner_spawns_0 : decode y_MRunner_spawns.2.1 0 = .ok (.aload_n 0, 1) := by decide +kernel
theorem d_MRunner_spawns_1 : decode y_MRunner_spawns.2.1 1 = .ok (.getfield 25, 3) := by decide +kernel
theorem d_MRunner_spawns_4 : decode y_MRunner_spawns.2.1 4 = .ok (.getfield 122, 3) := by decide +kernel
theorem d_MRunner_spawns_7 : decode y_MRunner_spawns.2.1 7 = .ok (.aload_n 0, 1) := by decide +kernel
theorem d_MRunner_spawns_8 : decode y_MRunner_spawns.2.1 8 = .ok (.getfield 108, 3) := by decide +kernel
theorem d_MRunner_spawns_11 : decode y_MRunner_spawns.2.1 11 = .ok (.iaload, 1) := by decide +kernel
theorem d_MRunner_spawns_12 : decode y_MRunner_spawns.2.1 12 = .ok (.istore_n 1, 1) := by decide +kernel
theorem d_MRunner_spawns_13 : decode y_MRunner_spawns.2.1 13 = .ok (.aload_n 0, 1) := by decide +kernel
theorem d_MRunner_spawns_14 : decode y_MRunner_spawns.2.1 14 = .ok (.dup, 1) := by decide +kernel
theorem d_MRunner_spawns_15 : decode y_MRunner_spawns.2.1 15 = .ok (.getfield 108, 3) := by decide +kernel
theorem d_MRunner_spawns_18 : decode y_MRunner_spawns.2.1 18 = .ok (.iconst 1, 1) := by decide +kernel
theorem d_MRunner_spawns_19 : decode y_MRunner_spawns.2.1 19 = .ok (.iadd, 1) := by decide +kernel
theorem d_MRunner_spawns_20 : decode y_MRunner_spawns.2.1 20 = .ok (.putfield 108, 3) := by decide +kernel
theorem d_MRunner_spawns_23 : decode y_MRunner_spawns.2.1 23 = .ok (.iconst 0, 1) := by decide +kernel
theorem d_MRunner_spawns_24 : decode y_MRunner_spawns.2.1 24 = .ok (.istore_n 2, 1) := by decide +kernel
theorem d_MRunner_spawns_25 : decode y_MRunner_spawns.2.1 25 = .ok (.iconst 0, 1) := by decide +kernel
theorem d_MRunner_spawns_26 : decode y_MRunner_spawns.2.1 26 = .ok (.istore_n 3, 1) := by decide +kernel
theorem d_MRunner_spawns_27 : decode y_MRunner_spawns.2.1 27 = .ok (.iconst 0, 1) := by decide +kernel
theorem d_MRunner_spawns_28 : decode y_MRunner_spawns.2.1 28 = .ok (.istore 4, 2) := by decide +kernel
theorem d_MRunner_spawns_30 : decode y_MRunner_spawns.2.1 30 = .ok (.iconst 0, 1) := by decide +kernel
theorem d_MRunner_spawns_31 : decode y_MRunner_spawns.2.1 31 = .ok (.istore 5, 2) := by decide +kernel
theorem d_MRunner_spawns_33 : decode y_MRunner_spawns.2.1 33 = .ok (.iconst 0, 1) := by decide +kernel
theorem d_MRunner_spawns_34 : decode y_MRunner_spawns.2.1 34 = .ok (.istore 6, 2) := by decide +kernel
theorem d_MRunner_spawns_36 : decode y_MRunner_spawns.2.1 36 = .ok (.iconst 0, 1) := by decide +kernel
theorem d_MRunner_spawns_37 : decode y_MRunner_spawns.2.1 37 = .ok (.istore 7, 2) := by decide +kernel
theorem d_MRunner_spawns_39 : decode y_MRunner_spawns.2.1 39 = .ok (.aload_n 0, 1) := by decide +kernel
theorem d_MRunner_spawns_40 : decode y_MRunner_spawns.2.1 40 = .ok (.getfield 25, 3) := by decide +kernel
theorem d_MRunner_spawns_43 : decode y_MRunner_spawns.2.1 43 = .ok (.getfield 131, 3) := by decide +kernel
theorem d_MRunner_spawns_46 : decode y_MRunner_spawns.2.1 46 = .ok (.aload_n 0, 1) := by decide +kernel
theorem d_MRunner_spawns_47 : decode y_MRunner_spawns.2.1 47 = .ok (.getfield 108, 3) := by decide +kernel
theorem d_MRunner_spawns_50 : decode y_MRunner_spawns.2.1 50 = .ok (.iaload, 1) := by decide +kernel
theorem d_MRunner_spawns_51 : decode y_MRunner_spawns.2.1 51 = .ok (.bipush 40, 2) := by decide +kernel
theorem d_MRunner_spawns_53 : decode y_MRunner_spawns.2.1 53 = .ok (.if_icmp .ne 7, 3) := by decide +kernel
theorem d_MRunner_spawns_56 : decode y_MRunner_spawns.2.1 56 = .ok (.iconst 1, 1) := by decide +kernel
theorem d_MRunner_spawns_57 : decode y_MRunner_spawns.2.1 57 = .ok (.goto 4, 3) := by decide +kernel
theorem d_MRunner_spawns_60 : decode y_MRunner_spawns.2.1 60 = .ok (.iconst 0, 1) := by decide +kernel
theorem d_MRunner_spawns_61 : decode y_MRunner_spawns.2.1 61 = .ok (.istore 8, 2) := by decide +kernel
theorem d_MRunner_spawns_63 : decode y_MRunner_spawns.2.1 63 = .ok (.iload 8, 2) := by decide +kernel
theorem d_MRunner_spawns_65 : decode y_MRunner_spawns.2.1 65 = .ok (.ifCond .eq 169, 3) := by decide +kernel
theorem d_MRunner_spawns_68 : decode y_MRunner_spawns.2.1 68 = .ok (.aload_n 0, 1) := by decide +kernel
theorem d_MRunner_spawns_69 : decode y_MRunner_spawns.2.1 69 = .ok (.getfield 96, 3) := by decide +kernel
theorem d_MRunner_spawns_72 : decode y_MRunner_spawns.2.1 72 = .ok (.ifCond .ne 162, 3) := by decide +kernel
theorem d_MRunner_spawns_75 : decode y_MRunner_spawns.2.1 75 = .ok (.aload_n 0, 1) := by decide +kernel
theorem d_MRunner_spawns_76 : decode y_MRunner_spawns.2.1 76 = .ok (.getfield 25, 3) := by decide +kernel
theorem d_MRunner_spawns_79 : decode y_MRunner_spawns.2.1 79 = .ok (.getfield 122, 3) := by decide +kernel
theorem d_MRunner_spawns_82 : decode y_MRunner_spawns.2.1 82 = .ok (.aload_n 0, 1) := by decide +kernel
theorem d_MRunner_spawns_83 : decode y_MRunner_spawns.2.1 83 = .ok (.getfield 108, 3) := by decide +kernel
theorem d_MRunner_spawns_86 : decode y_MRunner_spawns.2.1 86 = .ok (.iconst 3, 1) := by decide +kernel
theorem d_MRunner_spawns_87 : decode y_MRunner_spawns.2.1 87 = .ok (.iadd, 1) := by decide +kernel
theorem d_MRunner_spawns_88 : decode y_MRunner_spawns.2.1 88 = .ok (.iaload, 1) := by decide +kernel
theorem d_MRunner_spawns_89 : decode y_MRunner_spawns.2.1 89 = .ok (.istore 9, 2) := by decide +kernel
theorem d_MRunner_spawns_91 : decode y_MRunner_spawns.2.1 91 = .ok (.aload_n 0, 1) := by decide +kernel
theorem d_MRunner_spawns_92 : decode y_MRunner_spawns.2.1 92 = .ok (.dup, 1) := by decide +kernel
theorem d_MRunner_spawns_93 : decode y_MRunner_spawns.2.1 93 = .ok (.getfield 108, 3) := by decide +kernel
theorem d_MRunner_spawns_96 : decode y_MRunner_spawns.2.1 96 = .ok (.iconst 5, 1) := by decide +kernel
theorem d_MRunner_spawns_97 : decode y_MRunner_spawns.2.1 97 = .ok (.iadd, 1) := by decide +kernel
theorem d_MRunner_spawns_98 : decode y_MRunner_spawns.2.1 98 = .ok (.putfield 108, 3) := by decide +kernel
theorem d_MRunner_spawns_101 : decode y_MRunner_spawns.2.1 101 = .ok (.aload_n 0, 1) := by decide +kernel
theorem d_MRunner_spawns_102 : decode y_MRunner_spawns.2.1 102 = .ok (.getfield 25, 3) := by decide +kernel
theorem d_MRunner_spawns_105 : decode y_MRunner_spawns.2.1 105 = .ok (.getfield 160, 3) := by decide +kernel
theorem d_MRunner_spawns_108 : decode y_MRunner_spawns.2.1 108 = .ok (.iload 9, 2) := by decide +kernel
theorem d_MRunner_spawns_110 : decode y_MRunner_spawns.2.1 110 = .ok (.iaload, 1) := by decide +kernel
theorem d_MRunner_spawns_111 : decode y_MRunner_spawns.2.1 111 = .ok (.aload_n 0, 1) := by decide +kernel
theorem d_MRunner_spawns_112 : decode y_MRunner_spawns.2.1 112 = .ok (.invokevirtual 137, 3) := by decide +kernel
theorem d_MRunner_spawns_115 : decode y_MRunner_spawns.2.1 115 = .ok (.invokestatic 163, 3) := by decide +kernel
theorem d_MRunner_spawns_118 : decode y_MRunner_spawns.2.1 118 = .ok (.istore 10, 2) := by decide +kernel
theorem d_MRunner_spawns_120 : decode y_MRunner_spawns.2.1 120 = .ok (.iload 7, 2) := by decide +kernel
theorem d_MRunner_spawns_122 : decode y_MRunner_spawns.2.1 122 = .ok (.iload 9, 2) := by decide +kernel
theorem d_MRunner_spawns_124 : decode y_MRunner_spawns.2.1 124 = .ok (.bipush 8, 2) := by decide +kernel
theorem d_MRunner_spawns_126 : decode y_MRunner_spawns.2.1 126 = .ok (.iload_n 2, 1) := by decide +kernel
theorem d_MRunner_spawns_127 : decode y_MRunner_spawns.2.1 127 = .ok (.imul, 1) := by decide +kernel
theorem d_MRunner_spawns_128 : decode y_MRunner_spawns.2.1 128 = .ok (.ishl, 1) := by decide +kernel
theorem d_MRunner_spawns_129 : decode y_MRunner_spawns.2.1 129 = .ok (.ior, 1) := by decide +kernel
theorem d_MRunner_spawns_130 : decode y_MRunner_spawns.2.1 130 = .ok (.istore 7, 2) := by decide +kernel
theorem d_MRunner_spawns_132 : decode y_MRunner_spawns.2.1 132 = .ok (.iload_n 2, 1) := by decide +kernel
theorem d_MRunner_spawns_133 : decode y_MRunner_spawns.2.1 133 = .ok (.ifCond .ne 8, 3) := by decide +kernel
theorem d_MRunner_spawns_136 : decode y_MRunner_spawns.2.1 136 = .ok (.iload 10, 2) := by decide +kernel
theorem d_MRunner_spawns_138 : decode y_MRunner_spawns.2.1 138 = .ok (.goto 4, 3) := by decide +kernel
theorem d_MRunner_spawns_141 : decode y_MRunner_spawns.2.1 141 = .ok (.iload_n 3, 1) := by decide +kernel
theorem d_MRunner_spawns_142 : decode y_MRunner_spawns.2.1 142 = .ok (.istore_n 3, 1) := by decide +kernel
theorem d_MRunner_spawns_143 : decode y_MRunner_spawns.2.1 143 = .ok (.iload_n 2, 1) := by decide +kernel
theorem d_MRunner_spawns_144 : decode y_MRunner_spawns.2.1 144 = .ok (.iconst 1, 1) := by decide +kernel
theorem d_MRunner_spawns_145 : decode y_MRunner_spawns.2.1 145 = .ok (.if_icmp .ne 8, 3) := by decide +kernel
theorem d_MRunner_spawns_148 : decode y_MRunner_spawns.2.1 148 = .ok (.iload 10, 2) := by decide +kernel
theorem d_MRunner_spawns_150 : decode y_MRunner_spawns.2.1 150 = .ok (.goto 5, 3) := by decide +kernel
theorem d_MRunner_spawns_153 : decode y_MRunner_spawns.2.1 153 = .ok (.iload 4, 2) := by decide +kernel
theorem d_MRunner_spawns_155 : decode y_MRunner_spawns.2.1 155 = .ok (.istore 4, 2) := by decide +kernel
theorem d_MRunner_spawns_157 : decode y_MRunner_spawns.2.1 157 = .ok (.iload_n 2, 1) := by decide +kernel
theorem d_MRunner_spawns_158 : decode y_MRunner_spawns.2.1 158 = .ok (.iconst 2, 1) := by decide +kernel
theorem d_MRunner_spawns_159 : decode y_MRunner_spawns.2.1 159 = .ok (.if_icmp .ne 8, 3) := by decide +kernel
theorem d_MRunner_spawns_162 : decode y_MRunner_spawns.2.1 162 = .ok (.iload 10, 2) := by decide +kernel
theorem d_MRunner_spawns_164 : decode y_MRunner_spawns.2.1 164 = .ok (.goto 5, 3) := by decide +kernel
theorem d_MRunner_spawns_167 : decode y_MRunner_spawns.2.1 167 = .ok (.iload 5, 2) := by decide +kernel
theorem d_MRunner_spawns_169 : decode y_MRunner_spawns.2.1 169 = .ok (.istore 5, 2) := by decide +kernel
theorem d_MRunner_spawns_171 : decode y_MRunner_spawns.2.1 171 = .ok (.iload_n 2, 1) := by decide +kernel
theorem d_MRunner_spawns_172 : decode y_MRunner_spawns.2.1 172 = .ok (.iconst 3, 1) := by decide +kernel
theorem d_MRunner_spawns_173 : decode y_MRunner_spawns.2.1 173 = .ok (.if_icmp .ne 8, 3) := by decide +kernel
theorem d_MRunner_spawns_176 : decode y_MRunner_spawns.2.1 176 = .ok (.iload 10, 2) := by decide +kernel
theorem d_MRunner_spawns_178 : decode y_MRunner_spawns.2.1 178 = .ok (.goto 5, 3) := by decide +kernel
theorem d_MRunner_spawns_181 : decode y_MRunner_spawns.2.1 181 = .ok (.iload 6, 2) := by decide +kernel
theorem d_MRunner_spawns_183 : decode y_MRunner_spawns.2.1 183 = .ok (.istore 6, 2) := by decide +kernel
theorem d_MRunner_spawns_185 : decode y_MRunner_spawns.2.1 185 = .ok (.iinc 2 1, 3) := by decide +kernel
theorem d_MRunner_spawns_188 : decode y_MRunner_spawns.2.1 188 = .ok (.aload_n 0, 1) := by decide +kernel
theorem d_MRunner_spawns_189 : decode y_MRunner_spawns.2.1 189 = .ok (.getfield 25, 3) := by decide +kernel
theorem d_MRunner_spawns_192 : decode y_MRunner_spawns.2.1 192 = .ok (.getfield 131, 3) := by decide +kernel
theorem d_MRunner_spawns_195 : decode y_MRunner_spawns.2.1 195 = .ok (.aload_n 0, 1) := by decide +kernel
theorem d_MRunner_spawns_196 : decode y_MRunner_spawns.2.1 196 = .ok (.getfield 108, 3) := by decide +kernel
theorem d_MRunner_spawns_199 : decode y_MRunner_spawns.2.1 199 = .ok (.iaload, 1) := by decide +kernel
theorem d_MRunner_spawns_200 : decode y_MRunner_spawns.2.1 200 = .ok (.bipush 44, 2) := by decide +kernel
theorem d_MRunner_spawns_202 : decode y_MRunner_spawns.2.1 202 = .ok (.if_icmp .ne 7, 3) := by decide +kernel
theorem d_MRunner_spawns_205 : decode y_MRunner_spawns.2.1 205 = .ok (.iconst 1, 1) := by decide +kernel
theorem d_MRunner_spawns_206 : decode y_MRunner_spawns.2.1 206 = .ok (.goto 4, 3) := by decide +kernel
theorem d_MRunner_spawns_209 : decode y_MRunner_spawns.2.1 209 = .ok (.iconst 0, 1) := by decide +kernel
theorem d_MRunner_spawns_210 : decode y_MRunner_spawns.2.1 210 = .ok (.istore 8, 2) := by decide +kernel
theorem d_MRunner_spawns_212 : decode y_MRunner_spawns.2.1 212 = .ok (.aload_n 0, 1) := by decide +kernel
theorem d_MRunner_spawns_213 : decode y_MRunner_spawns.2.1 213 = .ok (.dup, 1) := by decide +kernel
theorem d_MRunner_spawns_214 : decode y_MRunner_spawns.2.1 214 = .ok (.getfield 108, 3) := by decide +kernel
theorem d_MRunner_spawns_217 : decode y_MRunner_spawns.2.1 217 = .ok (.iload 8, 2) := by decide +kernel
theorem d_MRunner_spawns_219 : decode y_MRunner_spawns.2.1 219 = .ok (.ifCond .eq 7, 3) := by decide +kernel
theorem d_MRunner_spawns_222 : decode y_MRunner_spawns.2.1 222 = .ok (.iconst 0, 1) := by decide +kernel
theorem d_MRunner_spawns_223 : decode y_MRunner_spawns.2.1 223 = .ok (.goto 4, 3) := by decide +kernel
theorem d_MRunner_spawns_226 : decode y_MRunner_spawns.2.1 226 = .ok (.iconst 1, 1) := by decide +kernel
theorem d_MRunner_spawns_227 : decode y_MRunner_spawns.2.1 227 = .ok (.iadd, 1) := by decide +kernel
theorem d_MRunner_spawns_228 : decode y_MRunner_spawns.2.1 228 = .ok (.putfield 108, 3) := by decide +kernel
theorem d_MRunner_spawns_231 : decode y_MRunner_spawns.2.1 231 = .ok (.goto (-168), 3) := by decide +kernel
theorem d_MRunner_spawns_234 : decode y_MRunner_spawns.2.1 234 = .ok (.aload_n 0, 1) := by decide +kernel
theorem d_MRunner_spawns_235 : decode y_MRunner_spawns.2.1 235 = .ok (.dup, 1) := by decide +kernel
theorem d_MRunner_spawns_236 : decode y_MRunner_spawns.2.1 236 = .ok (.getfield 108, 3) := by decide +kernel
theorem d_MRunner_spawns_239 : decode y_MRunner_spawns.2.1 239 = .ok (.iconst 1, 1) := by decide +kernel
theorem d_MRunner_spawns_240 : decode y_MRunner_spawns.2.1 240 = .ok (.iadd, 1) := by decide +kernel
theorem d_MRunner_spawns_241 : decode y_MRunner_spawns.2.1 241 = .ok (.putfield 108, 3) := by decide +kernel
theorem d_MRunner_spawns_244 : decode y_MRunner_spawns.2.1 244 = .ok (.aload_n 0, 1) := by decide +kernel
theorem d_MRunner_spawns_245 : decode y_MRunner_spawns.2.1 245 = .ok (.sipush 222, 3) := by decide +kernel
theorem d_MRunner_spawns_248 : decode y_MRunner_spawns.2.1 248 = .ok (.invokevirtual 200, 3) := by decide +kernel
theorem d_MRunner_spawns_251 : decode y_MRunner_spawns.2.1 251 = .ok (.istore 9, 2) := by decide +kernel
theorem d_MRunner_spawns_253 : decode y_MRunner_spawns.2.1 253 = .ok (.iload 9, 2) := by decide +kernel
theorem d_MRunner_spawns_255 : decode y_MRunner_spawns.2.1 255 = .ok (.ifCond .ge 4, 3) := by decide +kernel
theorem d_MRunner_spawns_258 : decode y_MRunner_spawns.2.1 258 = .ok (.return_, 1) := by decide +kernel
theorem d_MRunner_spawns_259 : decode y_MRunner_spawns.2.1 259 = .ok (.aload_n 0, 1) := by decide +kernel
theorem d_MRunner_spawns_260 : decode y_MRunner_spawns.2.1 260 = .ok (.getfield 12, 3) := by decide +kernel
theorem d_MRunner_spawns_263 : decode y_MRunner_spawns.2.1 263 = .ok (.iload 9, 2) := by decide +kernel
theorem d_MRunner_spawns_265 : decode y_MRunner_spawns.2.1 265 = .ok (.iconst 1, 1) := by decide +kernel
theorem d_MRunner_spawns_266 : decode y_MRunner_spawns.2.1 266 = .ok (.iadd, 1) := by decide +kernel
theorem d_MRunner_spawns_267 : decode y_MRunner_spawns.2.1 267 = .ok (.iload_n 1, 1) := by decide +kernel
theorem d_MRunner_spawns_268 : decode y_MRunner_spawns.2.1 268 = .ok (.iastore, 1) := by decide +kernel
theorem d_MRunner_spawns_269 : decode y_MRunner_spawns.2.1 269 = .ok (.aload_n 0, 1) := by decide +kernel
theorem d_MRunner_spawns_270 : decode y_MRunner_spawns.2.1 270 = .ok (.getfield 12, 3) := by decide +kernel
theorem d_MRunner_spawns_273 : decode y_MRunner_spawns.2.1 273 = .ok (.iload 9, 2) := by decide +kernel
theorem d_MRunner_spawns_275 : decode y_MRunner_spawns.2.1 275 = .ok (.iconst 2, 1) := by decide +kernel
theorem d_MRunner_spawns_276 : decode y_MRunner_spawns.2.1 276 = .ok (.iadd, 1) := by decide +kernel
theorem d_MRunner_spawns_277 : decode y_MRunner_spawns.2.1 277 = .ok (.iload_n 2, 1) := by decide +kernel
theorem d_MRunner_spawns_278 : decode y_MRunner_spawns.2.1 278 = .ok (.iastore, 1) := by decide +kernel
theorem d_MRunner_spawns_279 : decode y_MRunner_spawns.2.1 279 = .ok (.aload_n 0, 1) := by decide +kernel
theorem d_MRunner_spawns_280 : decode y_MRunner_spawns.2.1 280 = .ok (.getfield 12, 3) := by decide +kernel
theorem d_MRunner_spawns_283 : decode y_MRunner_spawns.2.1 283 = .ok (.iload 9, 2) := by decide +kernel
theorem d_MRunner_spawns_285 : decode y_MRunner_spawns.2.1 285 = .ok (.iconst 3, 1) := by decide +kernel
theorem d_MRunner_spawns_286 : decode y_MRunner_spawns.2.1 286 = .ok (.iadd, 1) := by decide +kernel
theorem d_MRunner_spawns_287 : decode y_MRunner_spawns.2.1 287 = .ok (.iload 7, 2) := by decide +kernel
theorem d_MRunner_spawns_289 : decode y_MRunner_spawns.2.1 289 = .ok (.iastore, 1) := by decide +kernel
theorem d_MRunner_spawns_290 : decode y_MRunner_spawns.2.1 290 = .ok (.aload_n 0, 1) := by decide +kernel
theorem d_MRunner_spawns_291 : decode y_MRunner_spawns.2.1 291 = .ok (.getfield 12, 3) := by decide +kernel
theorem d_MRunner_spawns_294 : decode y_MRunner_spawns.2.1 294 = .ok (.iload 9, 2) := by decide +kernel
theorem d_MRunner_spawns_296 : decode y_MRunner_spawns.2.1 296 = .ok (.iconst 4, 1) := by decide +kernel
theorem d_MRunner_spawns_297 : decode y_MRunner_spawns.2.1 297 = .ok (.iadd, 1) := by decide +kernel
theorem d_MRunner_spawns_298 : decode y_MRunner_spawns.2.1 298 = .ok (.iload_n 3, 1) := by decide +kernel
theorem d_MRunner_spawns_299 : decode y_MRunner_spawns.2.1 299 = .ok (.iastore, 1) := by decide +kernel
theorem d_MRunner_spawns_300 : decode y_MRunner_spawns.2.1 300 = .ok (.aload_n 0, 1) := by decide +kernel
theorem d_MRunner_spawns_301 : decode y_MRunner_spawns.2.1 301 = .ok (.getfield 12, 3) := by decide +kernel
theorem d_MRunner_spawns_304 : decode y_MRunner_spawns.2.1 304 = .ok (.iload 9, 2) := by decide +kernel
theorem d_MRunner_spawns_306 : decode y_MRunner_spawns.2.1 306 = .ok (.iconst 5, 1) := by decide +kernel
theorem d_MRunner_spawns_307 : decode y_MRunner_spawns.2.1 307 = .ok (.iadd, 1) := by decide +kernel
theorem d_MRunner_spawns_308 : decode y_MRunner_spawns.2.1 308 = .ok (.iload 4, 2) := by decide +kernel
theorem d_MRunner_spawns_310 : decode y_MRunner_spawns.2.1 310 = .ok (.iastore, 1) := by decide +kernel
theorem d_MRunner_spawns_311 : decode y_MRunner_spawns.2.1 311 = .ok (.aload_n 0, 1) := by decide +kernel
theorem d_MRunner_spawns_312 : decode y_MRunner_spawns.2.1 312 = .ok (.getfield 12, 3) := by decide +kernel
theorem d_MRunner_spawns_315 : decode y_MRunner_spawns.2.1 315 = .ok (.iload 9, 2) := by decide +kernel
theorem d_MRunner_spawns_317 : decode y_MRunner_spawns.2.1 317 = .ok (.bipush 6, 2) := by decide +kernel
theorem d_MRunner_spawns_319 : decode y_MRunner_spawns.2.1 319 = .ok (.iadd, 1) := by decide +kernel
theorem d_MRunner_spawns_320 : decode y_MRunner_spawns.2.1 320 = .ok (.iload 5, 2) := by decide +kernel
theorem d_MRunner_spawns_322 : decode y_MRunner_spawns.2.1 322 = .ok (.iastore, 1) := by decide +kernel
theorem d_MRunner_spawns_323 : decode y_MRunner_spawns.2.1 323 = .ok (.aload_n 0, 1) := by decide +kernel
theorem d_MRunner_spawns_324 : decode y_MRunner_spawns.2.1 324 = .ok (.getfield 12, 3) := by decide +kernel
theorem d_MRunner_spawns_327 : decode y_MRunner_spawns.2.1 327 = .ok (.iload 9, 2) := by decide +kernel
theorem d_MRunner_spawns_329 : decode y_MRunner_spawns.2.1 329 = .ok (.bipush 7, 2) := by decide +kernel
theorem d_MRunner_spawns_331 : decode y_MRunner_spawns.2.1 331 = .ok (.iadd, 1) := by decide +kernel
theorem d_MRunner_spawns_332 : decode y_MRunner_spawns.2.1 332 = .ok (.iload 6, 2) := by decide +kernel
theorem d_MRunner_spawns_334 : decode y_MRunner_spawns.2.1 334 = .ok (.iastore, 1) := by decide +kernel
theorem d_MRunner_spawns_335 : decode y_MRunner_spawns.2.1 335 = .ok (.return_, 1) := by decide +kernel
theorem s_MRunner_spawns : ab_Stat y_MRunner_spawns 0 := ⟨(k12 115 rfl rfl), (k1 22 rfl rfl), ⟨by decide, by decide⟩, by decide +kernel⟩
theorem i_MRunner_spawns : Cond.instanceMethod y_MRunner_spawns.1 ∈ ab_T := (k12 114 rfl rfl)
theorem v_MRunner_spawns : Cond.selects "WorldEngineModel$Runner" y_MRunner_spawns.1 y_MRunner_spawns.1 ∈ ab_T := ab_s (List.mem_of_getElem? (i := 200) rfl) rfl
def B_MRunner_spawns_234 (N : Nat) (p0 : Nat) (l1 : Int32) (l2 : Int32) (l3 : Int32) (l4 : Int32) (l5 : Int32) (l6 : Int32) (l7 : Int32) (H : Hp) : Option (Unit × Hp) :=
    ck (H.sh[p0]? = some (15, 0)) <|
    bnd ((H.D p0 11)) fun x27 =>
    bnd (H.sD p0 11 (x27 + (1 : Int32))) fun H28 =>
    bC (F_MRunner_commanded N p0 (222 : Int32) H28) fun v30 H31 =>
    if (0 : Int32) ≤ v30 then
    rf (H31.P p0 3) fun a33 =>
    ar H31 100 a33 fun n35 =>
    ck (inb (v30 + (1 : Int32)) n35) <|
    bnd (H31.sD a33 ((v30 + (1 : Int32))).toNatClampNeg l1) fun H38 =>
    rf (H38.P p0 3) fun a39 =>
    ar H38 100 a39 fun n41 =>
    ck (inb (v30 + (2 : Int32)) n41) <|
    bnd (H38.sD a39 ((v30 + (2 : Int32))).toNatClampNeg l2) fun H44 =>
    rf (H44.P p0 3) fun a45 =>
    ar H44 100 a45 fun n47 =>
    ck (inb (v30 + (3 : Int32)) n47) <|
    bnd (H44.sD a45 ((v30 + (3 : Int32))).toNatClampNeg l7) fun H50 =>
    rf (H50.P p0 3) fun a51 =>
    ar H50 100 a51 fun n53 =>
    ck (inb (v30 + (4 : Int32)) n53) <|
    bnd (H50.sD a51 ((v30 + (4 : Int32))).toNatClampNeg l3) fun H56 =>
    rf (H56.P p0 3) fun a57 =>
    ar H56 100 a57 fun n59 =>
    ck (inb (v30 + (5 : Int32)) n59) <|
    bnd (H56.sD a57 ((v30 + (5 : Int32))).toNatClampNeg l4) fun H62 =>
    rf (H62.P p0 3) fun a63 =>
    ar H62 100 a63 fun n65 =>
    ck (inb (v30 + (6 : Int32)) n65) <|
    bnd (H62.sD a63 ((v30 + (6 : Int32))).toNatClampNeg l5) fun H68 =>
    rf (H68.P p0 3) fun a69 =>
    ar H68 100 a69 fun n71 =>
    ck (inb (v30 + (7 : Int32)) n71) <|
    bnd (H68.sD a69 ((v30 + (7 : Int32))).toNatClampNeg l6) fun H74 =>
    some ((), H74)
    else
    some ((), H31)
set_option maxRecDepth 20000 in
set_option maxHeartbeats 2000000 in
theorem mB_MRunner_spawns_234 {N : Nat} {p0 : Nat} {l1 : Int32} {l2 : Int32} {l3 : Int32} {l4 : Int32} {l5 : Int32} {l6 : Int32} {l7 : Int32} {H : Hp} {r : Unit × Hp} (hF : B_MRunner_spawns_234 N p0 l1 l2 l3 l4 l5 l6 l7 H = some r) : Sa H r.2 := by
  unfold B_MRunner_spawns_234 at hF
  have hm := Sa.rf H
  obtain ⟨q75, hG⟩ := ck_s hF; clear hF
  obtain ⟨x76, -, hF⟩ := bnd_g hG; clear hG
  obtain ⟨H77, eH77, hG⟩ := bnd_g hF; clear hF
  replace hm : Sa H H77 := by rw [eH77]; exact hm
  obtain ⟨v79, H80, z78, hF⟩ := bC_s hG; clear hG
  replace hm : Sa H H80 := hm.tr (m_MRunner_commanded z78)
  rcases ite_s hF with ⟨q_13, hG⟩ | ⟨q_13, hG⟩
  · clear hF
    obtain ⟨a82, e83, hF⟩ := rf_s hG; clear hG
    obtain ⟨n84, q85, hG⟩ := ar_s hF; clear hF
    obtain ⟨q86, hF⟩ := ck_s hG; clear hG
    obtain ⟨H87, eH87, hG⟩ := bnd_g hF; clear hF
    replace hm : Sa H H87 := by rw [eH87]; exact hm
    obtain ⟨a88, e89, hF⟩ := rf_s hG; clear hG
    obtain ⟨n90, q91, hG⟩ := ar_s hF; clear hF
    obtain ⟨q92, hF⟩ := ck_s hG; clear hG
    obtain ⟨H93, eH93, hG⟩ := bnd_g hF; clear hF
    replace hm : Sa H H93 := by rw [eH93]; exact hm
    obtain ⟨a94, e95, hF⟩ := rf_s hG; clear hG
    obtain ⟨n96, q97, hG⟩ := ar_s hF; clear hF
    obtain ⟨q98, hF⟩ := ck_s hG; clear hG
    obtain ⟨H99, eH99, hG⟩ := bnd_g hF; clear hF
    replace hm : Sa H H99 := by rw [eH99]; exact hm
    obtain ⟨a100, e101, hF⟩ := rf_s hG; clear hG
    obtain ⟨n102, q103, hG⟩ := ar_s hF; clear hF
    obtain ⟨q104, hF⟩ := ck_s hG; clear hG
    obtain ⟨H105, eH105, hG⟩ := bnd_g hF; clear hF
    replace hm : Sa H H105 := by rw [eH105]; exact hm
    obtain ⟨a106, e107, hF⟩ := rf_s hG; clear hG
    obtain ⟨n108, q109, hG⟩ := ar_s hF; clear hF
    obtain ⟨q110, hF⟩ := ck_s hG; clear hG
    obtain ⟨H111, eH111, hG⟩ := bnd_g hF; clear hF
    replace hm : Sa H H111 := by rw [eH111]; exact hm
    obtain ⟨a112, e113, hF⟩ := rf_s hG; clear hG
    obtain ⟨n114, q115, hG⟩ := ar_s hF; clear hF
    obtain ⟨q116, hF⟩ := ck_s hG; clear hG
    obtain ⟨H117, eH117, hG⟩ := bnd_g hF; clear hF
    replace hm : Sa H H117 := by rw [eH117]; exact hm
    obtain ⟨a118, e119, hF⟩ := rf_s hG; clear hG
    obtain ⟨n120, q121, hG⟩ := ar_s hF; clear hF
    obtain ⟨q122, hF⟩ := ck_s hG; clear hG
    obtain ⟨H123, eH123, hG⟩ := bnd_g hF; clear hF
    replace hm : Sa H H123 := by rw [eH123]; exact hm
    have hr := Option.some.inj hG; subst hr
    exact hm
  · clear hF
    have hr := Option.some.inj hG; subst hr
    exact hm
set_option maxRecDepth 20000 in
set_option maxHeartbeats 2000000 in
theorem kB_MRunner_spawns_234 {N : Nat} {p0 : Nat} {l1 : Int32} {l2 : Int32} {l3 : Int32} {l4 : Int32} {l5 : Int32} {l6 : Int32} {l7 : Int32} {H : Hp} {r : Unit × Hp} (hF : B_MRunner_spawns_234 N p0 l1 l2 l3 l4 l5 l6 l7 H = some r) : ab_V y_MRunner_spawns { frames := 254, cells := 0, slots := 0, locals := 6237 } (po (.returned none) r.2) 0 0 0 0 234 [some (.ref p0), some (.int l1), some (.int l2), some (.int l3), some (.int l4), some (.int l5), some (.int l6), some (.int l7), none, none, none] [] (hpw H) := by
  unfold B_MRunner_spawns_234 at hF
  refine ab_aload_n d_MRunner_spawns_234 rfl rfl rfl ?_
  refine ab_dup d_MRunner_spawns_235 rfl ?_
  obtain ⟨q26, hG⟩ := ck_s hF; clear hF
  refine hp_getI (f := 11) d_MRunner_spawns_236 q26 (by decide) rfl (by decide) (k9 194 rfl rfl) rfl ?_
  refine ab_topi (fun x27 ex27 => ?_)
  replace hG := bnd_s ex27 hG
  refine ab_iconst (v := 1) d_MRunner_spawns_239 (by decide) ?_
  refine ab_iadd d_MRunner_spawns_240 ?_
  refine hp_putI (v := x27 + (1 : Int32)) (f := 11) d_MRunner_spawns_241 q26 (by decide) rfl (by decide) (k9 194 rfl rfl) rfl rfl (fun _ => rfl) (fun _ => rfl) rfl ?_
  refine hp_gen (fun H28 eH28 => ?_)
  replace hG := bnd_s eH28 hG
  have s_2 : Sa H H28 := by rw [eH28]; exact Sa.rf _
  refine ab_aload_n d_MRunner_spawns_244 rfl rfl rfl ?_
  refine ab_sipush (v := 222) d_MRunner_spawns_245 (by decide) ?_
  obtain ⟨v30, H31, z29, hF⟩ := bC_s hG; clear hG
  refine hp_callV_a (v := .int v30) (H1 := H31) (As := [.int 222]) (rest := []) d_MRunner_spawns_248 (k_MRunner_commanded z29) (ab_mkC s_MRunner_commanded (Nat.le_of_ble_eq_true rfl) (Nat.le_of_ble_eq_true rfl) (Nat.le_refl 0) (Nat.le_refl 0)) (k12 116 rfl rfl) i_MRunner_commanded v_MRunner_commanded (by rw [(s_2).1]; exact q26) (by decide) rfl rfl (Nat.le_of_ble_eq_true rfl) ?_
  have s_3 : Sa H H31 := (s_2).tr (m_MRunner_commanded z29)
  refine ab_istore (lv' := [some (.ref p0), some (.int l1), some (.int l2), some (.int l3), some (.int l4), some (.int l5), some (.int l6), some (.int l7), none, some (.int v30), none]) d_MRunner_spawns_251 (by decide) rfl ?_
  refine ab_iload d_MRunner_spawns_253 rfl ?_
  refine ab_if_ge (tgt := 259) d_MRunner_spawns_255 (by decide) (fun q32 => ?_) (fun q32 => ?_)
  · rw [if_pos q32] at hF
    refine ab_aload_n d_MRunner_spawns_259 rfl rfl rfl ?_
    obtain ⟨a33, e34, hG⟩ := rf_s hF; clear hF
    refine hp_getR (f := 3) d_MRunner_spawns_260 (by rw [(s_3).1]; exact q26) (by decide) rfl (by decide) (k9 186 rfl rfl) rfl e34 ?_
    refine ab_iload d_MRunner_spawns_263 rfl ?_
    refine ab_iconst (v := 1) d_MRunner_spawns_265 (by decide) ?_
    refine ab_iadd d_MRunner_spawns_266 ?_
    refine ab_iload_n d_MRunner_spawns_267 rfl rfl ?_
    obtain ⟨n35, q36, hF⟩ := ar_s hG; clear hG
    rw [(s_3).1] at q36
    obtain ⟨q37, hG⟩ := ck_s hF; clear hF
    refine hp_iast d_MRunner_spawns_268 tI (by rw [(s_3).1]; exact q36) q37 ?_
    refine hp_gen (fun H38 eH38 => ?_)
    replace hG := bnd_s eH38 hG
    have s_4 : Sa H H38 := by rw [eH38]; exact s_3
    refine ab_aload_n d_MRunner_spawns_269 rfl rfl rfl ?_
    obtain ⟨a39, e40, hF⟩ := rf_s hG; clear hG
    refine hp_getR (f := 3) d_MRunner_spawns_270 (by rw [(s_4).1]; exact q26) (by decide) rfl (by decide) (k9 186 rfl rfl) rfl e40 ?_
    refine ab_iload d_MRunner_spawns_273 rfl ?_
    refine ab_iconst (v := 2) d_MRunner_spawns_275 (by decide) ?_
    refine ab_iadd d_MRunner_spawns_276 ?_
    refine ab_iload_n d_MRunner_spawns_277 rfl rfl ?_
    obtain ⟨n41, q42, hG⟩ := ar_s hF; clear hF
    rw [(s_4).1] at q42
    obtain ⟨q43, hF⟩ := ck_s hG; clear hG
    refine hp_iast d_MRunner_spawns_278 tI (by rw [(s_4).1]; exact q42) q43 ?_
    refine hp_gen (fun H44 eH44 => ?_)
    replace hF := bnd_s eH44 hF
    have s_5 : Sa H H44 := by rw [eH44]; exact s_4
    refine ab_aload_n d_MRunner_spawns_279 rfl rfl rfl ?_
    obtain ⟨a45, e46, hG⟩ := rf_s hF; clear hF
    refine hp_getR (f := 3) d_MRunner_spawns_280 (by rw [(s_5).1]; exact q26) (by decide) rfl (by decide) (k9 186 rfl rfl) rfl e46 ?_
    refine ab_iload d_MRunner_spawns_283 rfl ?_
    refine ab_iconst (v := 3) d_MRunner_spawns_285 (by decide) ?_
    refine ab_iadd d_MRunner_spawns_286 ?_
    refine ab_iload d_MRunner_spawns_287 rfl ?_
    obtain ⟨n47, q48, hF⟩ := ar_s hG; clear hG
    rw [(s_5).1] at q48
    obtain ⟨q49, hG⟩ := ck_s hF; clear hF
    refine hp_iast d_MRunner_spawns_289 tI (by rw [(s_5).1]; exact q48) q49 ?_
    refine hp_gen (fun H50 eH50 => ?_)
    replace hG := bnd_s eH50 hG
    have s_6 : Sa H H50 := by rw [eH50]; exact s_5
    refine ab_aload_n d_MRunner_spawns_290 rfl rfl rfl ?_
    obtain ⟨a51, e52, hF⟩ := rf_s hG; clear hG
    refine hp_getR (f := 3) d_MRunner_spawns_291 (by rw [(s_6).1]; exact q26) (by decide) rfl (by decide) (k9 186 rfl rfl) rfl e52 ?_
    refine ab_iload d_MRunner_spawns_294 rfl ?_
    refine ab_iconst (v := 4) d_MRunner_spawns_296 (by decide) ?_
    refine ab_iadd d_MRunner_spawns_297 ?_
    refine ab_iload_n d_MRunner_spawns_298 rfl rfl ?_
    obtain ⟨n53, q54, hG⟩ := ar_s hF; clear hF
    rw [(s_6).1] at q54
    obtain ⟨q55, hF⟩ := ck_s hG; clear hG
    refine hp_iast d_MRunner_spawns_299 tI (by rw [(s_6).1]; exact q54) q55 ?_
    refine hp_gen (fun H56 eH56 => ?_)
    replace hF := bnd_s eH56 hF
    have s_7 : Sa H H56 := by rw [eH56]; exact s_6
    refine ab_aload_n d_MRunner_spawns_300 rfl rfl rfl ?_
    obtain ⟨a57, e58, hG⟩ := rf_s hF; clear hF
    refine hp_getR (f := 3) d_MRunner_spawns_301 (by rw [(s_7).1]; exact q26) (by decide) rfl (by decide) (k9 186 rfl rfl) rfl e58 ?_
    refine ab_iload d_MRunner_spawns_304 rfl ?_
    refine ab_iconst (v := 5) d_MRunner_spawns_306 (by decide) ?_
    refine ab_iadd d_MRunner_spawns_307 ?_
    refine ab_iload d_MRunner_spawns_308 rfl ?_
    obtain ⟨n59, q60, hF⟩ := ar_s hG; clear hG
    rw [(s_7).1] at q60
    obtain ⟨q61, hG⟩ := ck_s hF; clear hF
    refine hp_iast d_MRunner_spawns_310 tI (by rw [(s_7).1]; exact q60) q61 ?_
    refine hp_gen (fun H62 eH62 => ?_)
    replace hG := bnd_s eH62 hG
    have s_8 : Sa H H62 := by rw [eH62]; exact s_7
    refine ab_aload_n d_MRunner_spawns_311 rfl rfl rfl ?_
    obtain ⟨a63, e64, hF⟩ := rf_s hG; clear hG
    refine hp_getR (f := 3) d_MRunner_spawns_312 (by rw [(s_8).1]; exact q26) (by decide) rfl (by decide) (k9 186 rfl rfl) rfl e64 ?_
    refine ab_iload d_MRunner_spawns_315 rfl ?_
    refine ab_bipush (v := 6) d_MRunner_spawns_317 (by decide) ?_
    refine ab_iadd d_MRunner_spawns_319 ?_
    refine ab_iload d_MRunner_spawns_320 rfl ?_
    obtain ⟨n65, q66, hG⟩ := ar_s hF; clear hF
    rw [(s_8).1] at q66
    obtain ⟨q67, hF⟩ := ck_s hG; clear hG
    refine hp_iast d_MRunner_spawns_322 tI (by rw [(s_8).1]; exact q66) q67 ?_
    refine hp_gen (fun H68 eH68 => ?_)
    replace hF := bnd_s eH68 hF
    have s_9 : Sa H H68 := by rw [eH68]; exact s_8
    refine ab_aload_n d_MRunner_spawns_323 rfl rfl rfl ?_
    obtain ⟨a69, e70, hG⟩ := rf_s hF; clear hF
    refine hp_getR (f := 3) d_MRunner_spawns_324 (by rw [(s_9).1]; exact q26) (by decide) rfl (by decide) (k9 186 rfl rfl) rfl e70 ?_
    refine ab_iload d_MRunner_spawns_327 rfl ?_
    refine ab_bipush (v := 7) d_MRunner_spawns_329 (by decide) ?_
    refine ab_iadd d_MRunner_spawns_331 ?_
    refine ab_iload d_MRunner_spawns_332 rfl ?_
    obtain ⟨n71, q72, hF⟩ := ar_s hG; clear hG
    rw [(s_9).1] at q72
    obtain ⟨q73, hG⟩ := ck_s hF; clear hF
    refine hp_iast d_MRunner_spawns_334 tI (by rw [(s_9).1]; exact q72) q73 ?_
    refine hp_gen (fun H74 eH74 => ?_)
    replace hG := bnd_s eH74 hG
    have s_10 : Sa H H74 := by rw [eH74]; exact s_9
    exact ab_vret d_MRunner_spawns_335 rfl (Nat.le_refl _) (Nat.le_refl _) (by have hr := Option.some.inj hG; subst hr; exact ⟨rfl, rfl⟩)
  · rw [if_neg q32] at hF
    exact ab_vret d_MRunner_spawns_258 rfl (Nat.le_refl _) (Nat.le_refl _) (by have hr := Option.some.inj hF; subst hr; exact ⟨rfl, rfl⟩)
def B_MRunner_spawns_227 (N : Nat) (p0 : Nat) (kq63 : Int32 → Int32 → Int32 → Int32 → Int32 → Int32 → Int32 → Int32 → Hp → Option (Unit × Hp)) (l1 : Int32) (l2 : Int32) (l3 : Int32) (l4 : Int32) (l5 : Int32) (l6 : Int32) (l7 : Int32) (l8 : Int32) (w0 : Nat) (w1 : Int32) (w2 : Int32) (H : Hp) : Option (Unit × Hp) :=
    ck (H.sh[w0]? = some (15, 0)) <|
    bnd (H.sD w0 11 (w1 + w2)) fun H175 =>
    kq63 l1 l2 l3 l4 l5 l6 l7 l8 H175
set_option maxRecDepth 20000 in
set_option maxHeartbeats 2000000 in
theorem mB_MRunner_spawns_227 {N : Nat} {p0 : Nat} {kq63 : Int32 → Int32 → Int32 → Int32 → Int32 → Int32 → Int32 → Int32 → Hp → Option (Unit × Hp)} (hm63 : ∀ (l1 : Int32) (l2 : Int32) (l3 : Int32) (l4 : Int32) (l5 : Int32) (l6 : Int32) (l7 : Int32) (l8 : Int32) (H : Hp) (r : Unit × Hp), kq63 l1 l2 l3 l4 l5 l6 l7 l8 H = some r → Sa H r.2) {l1 : Int32} {l2 : Int32} {l3 : Int32} {l4 : Int32} {l5 : Int32} {l6 : Int32} {l7 : Int32} {l8 : Int32} {w0 : Nat} {w1 : Int32} {w2 : Int32} {H : Hp} {r : Unit × Hp} (hF : B_MRunner_spawns_227 N p0 kq63 l1 l2 l3 l4 l5 l6 l7 l8 w0 w1 w2 H = some r) : Sa H r.2 := by
  unfold B_MRunner_spawns_227 at hF
  have hm := Sa.rf H
  obtain ⟨q176, hG⟩ := ck_s hF; clear hF
  obtain ⟨H177, eH177, hF⟩ := bnd_g hG; clear hG
  replace hm : Sa H H177 := by rw [eH177]; exact hm
  exact hm.tr (hm63 l1 l2 l3 l4 l5 l6 l7 l8 H177 r hF)
set_option maxRecDepth 20000 in
set_option maxHeartbeats 2000000 in
theorem kB_MRunner_spawns_227 {N : Nat} {p0 : Nat} {kq63 : Int32 → Int32 → Int32 → Int32 → Int32 → Int32 → Int32 → Int32 → Hp → Option (Unit × Hp)} (hm63 : ∀ (l1 : Int32) (l2 : Int32) (l3 : Int32) (l4 : Int32) (l5 : Int32) (l6 : Int32) (l7 : Int32) (l8 : Int32) (H : Hp) (r : Unit × Hp), kq63 l1 l2 l3 l4 l5 l6 l7 l8 H = some r → Sa H r.2) (hk63 : ∀ (l1 : Int32) (l2 : Int32) (l3 : Int32) (l4 : Int32) (l5 : Int32) (l6 : Int32) (l7 : Int32) (l8 : Int32) (H : Hp) (r : Unit × Hp), kq63 l1 l2 l3 l4 l5 l6 l7 l8 H = some r → ab_V y_MRunner_spawns { frames := 254, cells := 0, slots := 0, locals := 6237 } (po (.returned none) r.2) 0 0 0 0 63 [some (.ref p0), some (.int l1), some (.int l2), some (.int l3), some (.int l4), some (.int l5), some (.int l6), some (.int l7), some (.int l8), none, none] [] (hpw H)) {l1 : Int32} {l2 : Int32} {l3 : Int32} {l4 : Int32} {l5 : Int32} {l6 : Int32} {l7 : Int32} {l8 : Int32} {w0 : Nat} {w1 : Int32} {w2 : Int32} {H : Hp} {r : Unit × Hp} (hF : B_MRunner_spawns_227 N p0 kq63 l1 l2 l3 l4 l5 l6 l7 l8 w0 w1 w2 H = some r) : ab_V y_MRunner_spawns { frames := 254, cells := 0, slots := 0, locals := 6237 } (po (.returned none) r.2) 0 0 0 0 227 [some (.ref p0), some (.int l1), some (.int l2), some (.int l3), some (.int l4), some (.int l5), some (.int l6), some (.int l7), some (.int l8), none, none] [.int w2, .int w1, .ref w0] (hpw H) := by
  unfold B_MRunner_spawns_227 at hF
  refine ab_iadd d_MRunner_spawns_227 ?_
  obtain ⟨q174, hG⟩ := ck_s hF; clear hF
  refine hp_putI (v := w1 + w2) (f := 11) d_MRunner_spawns_228 q174 (by decide) rfl (by decide) (k9 194 rfl rfl) rfl rfl (fun _ => rfl) (fun _ => rfl) rfl ?_
  refine hp_gen (fun H175 eH175 => ?_)
  replace hG := bnd_s eH175 hG
  have s_24 : Sa H H175 := by rw [eH175]; exact Sa.rf _
  refine ab_goto (tgt := 63) d_MRunner_spawns_231 (by decide) ?_
  exact hk63 l1 l2 l3 l4 l5 l6 l7 l8 H175 r hG
def B_MRunner_spawns_210 (N : Nat) (p0 : Nat) (kq63 : Int32 → Int32 → Int32 → Int32 → Int32 → Int32 → Int32 → Int32 → Hp → Option (Unit × Hp)) (l1 : Int32) (l2 : Int32) (l3 : Int32) (l4 : Int32) (l5 : Int32) (l6 : Int32) (l7 : Int32) (w0 : Int32) (H : Hp) : Option (Unit × Hp) :=
    ck (H.sh[p0]? = some (15, 0)) <|
    bnd ((H.D p0 11)) fun x172 =>
    if w0 = (0 : Int32) then
    B_MRunner_spawns_227 N p0 kq63 l1 l2 l3 l4 l5 l6 l7 w0 p0 x172 1 H
    else
    B_MRunner_spawns_227 N p0 kq63 l1 l2 l3 l4 l5 l6 l7 w0 p0 x172 0 H
set_option maxRecDepth 20000 in
set_option maxHeartbeats 2000000 in
theorem mB_MRunner_spawns_210 {N : Nat} {p0 : Nat} {kq63 : Int32 → Int32 → Int32 → Int32 → Int32 → Int32 → Int32 → Int32 → Hp → Option (Unit × Hp)} (hm63 : ∀ (l1 : Int32) (l2 : Int32) (l3 : Int32) (l4 : Int32) (l5 : Int32) (l6 : Int32) (l7 : Int32) (l8 : Int32) (H : Hp) (r : Unit × Hp), kq63 l1 l2 l3 l4 l5 l6 l7 l8 H = some r → Sa H r.2) {l1 : Int32} {l2 : Int32} {l3 : Int32} {l4 : Int32} {l5 : Int32} {l6 : Int32} {l7 : Int32} {w0 : Int32} {H : Hp} {r : Unit × Hp} (hF : B_MRunner_spawns_210 N p0 kq63 l1 l2 l3 l4 l5 l6 l7 w0 H = some r) : Sa H r.2 := by
  unfold B_MRunner_spawns_210 at hF
  have hm := Sa.rf H
  obtain ⟨q178, hG⟩ := ck_s hF; clear hF
  obtain ⟨x179, -, hF⟩ := bnd_g hG; clear hG
  rcases ite_s hF with ⟨q_26, hG⟩ | ⟨q_26, hG⟩
  · clear hF
    exact hm.tr (mB_MRunner_spawns_227 hm63 hG)
  · clear hF
    exact hm.tr (mB_MRunner_spawns_227 hm63 hG)
set_option maxRecDepth 20000 in
set_option maxHeartbeats 2000000 in
theorem kB_MRunner_spawns_210 {N : Nat} {p0 : Nat} {kq63 : Int32 → Int32 → Int32 → Int32 → Int32 → Int32 → Int32 → Int32 → Hp → Option (Unit × Hp)} (hm63 : ∀ (l1 : Int32) (l2 : Int32) (l3 : Int32) (l4 : Int32) (l5 : Int32) (l6 : Int32) (l7 : Int32) (l8 : Int32) (H : Hp) (r : Unit × Hp), kq63 l1 l2 l3 l4 l5 l6 l7 l8 H = some r → Sa H r.2) (hk63 : ∀ (l1 : Int32) (l2 : Int32) (l3 : Int32) (l4 : Int32) (l5 : Int32) (l6 : Int32) (l7 : Int32) (l8 : Int32) (H : Hp) (r : Unit × Hp), kq63 l1 l2 l3 l4 l5 l6 l7 l8 H = some r → ab_V y_MRunner_spawns { frames := 254, cells := 0, slots := 0, locals := 6237 } (po (.returned none) r.2) 0 0 0 0 63 [some (.ref p0), some (.int l1), some (.int l2), some (.int l3), some (.int l4), some (.int l5), some (.int l6), some (.int l7), some (.int l8), none, none] [] (hpw H)) {l1 : Int32} {l2 : Int32} {l3 : Int32} {l4 : Int32} {l5 : Int32} {l6 : Int32} {l7 : Int32} {w0 : Int32} {H : Hp} {r : Unit × Hp} (hF : B_MRunner_spawns_210 N p0 kq63 l1 l2 l3 l4 l5 l6 l7 w0 H = some r) : ab_V y_MRunner_spawns { frames := 254, cells := 0, slots := 0, locals := 6237 } (po (.returned none) r.2) 0 0 0 0 210 [some (.ref p0), some (.int l1), some (.int l2), some (.int l3), some (.int l4), some (.int l5), some (.int l6), some (.int l7), none, none, none] [.int w0] (hpw H) := by
  unfold B_MRunner_spawns_210 at hF
  refine ab_istore (lv' := [some (.ref p0), some (.int l1), some (.int l2), some (.int l3), some (.int l4), some (.int l5), some (.int l6), some (.int l7), some (.int w0), none, none]) d_MRunner_spawns_210 (by decide) rfl ?_
  refine ab_aload_n d_MRunner_spawns_212 rfl rfl rfl ?_
  refine ab_dup d_MRunner_spawns_213 rfl ?_
  obtain ⟨q171, hG⟩ := ck_s hF; clear hF
  refine hp_getI (f := 11) d_MRunner_spawns_214 q171 (by decide) rfl (by decide) (k9 194 rfl rfl) rfl ?_
  refine ab_topi (fun x172 ex172 => ?_)
  replace hG := bnd_s ex172 hG
  refine ab_iload d_MRunner_spawns_217 rfl ?_
  refine ab_if_eq (tgt := 226) d_MRunner_spawns_219 (by decide) (fun q173 => ?_) (fun q173 => ?_)
  · rw [if_pos q173] at hG
    refine ab_iconst (v := 1) d_MRunner_spawns_226 (by decide) ?_
    exact kB_MRunner_spawns_227 hm63 hk63 hG
  · rw [if_neg q173] at hG
    refine ab_iconst (v := 0) d_MRunner_spawns_222 (by decide) ?_
    refine ab_goto (tgt := 227) d_MRunner_spawns_223 (by decide) ?_
    exact kB_MRunner_spawns_227 hm63 hk63 hG
def B_MRunner_spawns_183 (N : Nat) (p0 : Nat) (kq63 : Int32 → Int32 → Int32 → Int32 → Int32 → Int32 → Int32 → Int32 → Hp → Option (Unit × Hp)) (l1 : Int32) (l2 : Int32) (l3 : Int32) (l4 : Int32) (l5 : Int32) (l7 : Int32) (w0 : Int32) (H : Hp) : Option (Unit × Hp) :=
    ck (H.sh[p0]? = some (15, 0)) <|
    rf (H.P p0 0) fun a160 =>
    ck (H.sh[a160]? = some (14, 0)) <|
    rf (H.P a160 3) fun a163 =>
    bnd ((H.D p0 11)) fun x165 =>
    ar H 100 a163 fun n166 =>
    ck (inb x165 n166) <|
    bnd ((H.D a163 (x165).toNatClampNeg)) fun x169 =>
    if x169 = (44 : Int32) then
    B_MRunner_spawns_210 N p0 kq63 l1 (l2 + 1) l3 l4 l5 w0 l7 1 H
    else
    B_MRunner_spawns_210 N p0 kq63 l1 (l2 + 1) l3 l4 l5 w0 l7 0 H
set_option maxRecDepth 20000 in
set_option maxHeartbeats 2000000 in
theorem mB_MRunner_spawns_183 {N : Nat} {p0 : Nat} {kq63 : Int32 → Int32 → Int32 → Int32 → Int32 → Int32 → Int32 → Int32 → Hp → Option (Unit × Hp)} (hm63 : ∀ (l1 : Int32) (l2 : Int32) (l3 : Int32) (l4 : Int32) (l5 : Int32) (l6 : Int32) (l7 : Int32) (l8 : Int32) (H : Hp) (r : Unit × Hp), kq63 l1 l2 l3 l4 l5 l6 l7 l8 H = some r → Sa H r.2) {l1 : Int32} {l2 : Int32} {l3 : Int32} {l4 : Int32} {l5 : Int32} {l7 : Int32} {w0 : Int32} {H : Hp} {r : Unit × Hp} (hF : B_MRunner_spawns_183 N p0 kq63 l1 l2 l3 l4 l5 l7 w0 H = some r) : Sa H r.2 := by
  unfold B_MRunner_spawns_183 at hF
  have hm := Sa.rf H
  obtain ⟨q181, hG⟩ := ck_s hF; clear hF
  obtain ⟨a182, e183, hF⟩ := rf_s hG; clear hG
  obtain ⟨q184, hG⟩ := ck_s hF; clear hF
  obtain ⟨a185, e186, hF⟩ := rf_s hG; clear hG
  obtain ⟨x187, -, hG⟩ := bnd_g hF; clear hF
  obtain ⟨n188, q189, hF⟩ := ar_s hG; clear hG
  obtain ⟨q190, hG⟩ := ck_s hF; clear hF
  obtain ⟨x191, -, hF⟩ := bnd_g hG; clear hG
  rcases ite_s hF with ⟨q_27, hG⟩ | ⟨q_27, hG⟩
  · clear hF
    exact hm.tr (mB_MRunner_spawns_210 hm63 hG)
  · clear hF
    exact hm.tr (mB_MRunner_spawns_210 hm63 hG)
set_option maxRecDepth 20000 in
set_option maxHeartbeats 2000000 in
theorem kB_MRunner_spawns_183 {N : Nat} {p0 : Nat} {kq63 : Int32 → Int32 → Int32 → Int32 → Int32 → Int32 → Int32 → Int32 → Hp → Option (Unit × Hp)} (hm63 : ∀ (l1 : Int32) (l2 : Int32) (l3 : Int32) (l4 : Int32) (l5 : Int32) (l6 : Int32) (l7 : Int32) (l8 : Int32) (H : Hp) (r : Unit × Hp), kq63 l1 l2 l3 l4 l5 l6 l7 l8 H = some r → Sa H r.2) (hk63 : ∀ (l1 : Int32) (l2 : Int32) (l3 : Int32) (l4 : Int32) (l5 : Int32) (l6 : Int32) (l7 : Int32) (l8 : Int32) (H : Hp) (r : Unit × Hp), kq63 l1 l2 l3 l4 l5 l6 l7 l8 H = some r → ab_V y_MRunner_spawns { frames := 254, cells := 0, slots := 0, locals := 6237 } (po (.returned none) r.2) 0 0 0 0 63 [some (.ref p0), some (.int l1), some (.int l2), some (.int l3), some (.int l4), some (.int l5), some (.int l6), some (.int l7), some (.int l8), none, none] [] (hpw H)) {l1 : Int32} {l2 : Int32} {l3 : Int32} {l4 : Int32} {l5 : Int32} {l7 : Int32} {w0 : Int32} {H : Hp} {r : Unit × Hp} (hF : B_MRunner_spawns_183 N p0 kq63 l1 l2 l3 l4 l5 l7 w0 H = some r) : ab_V y_MRunner_spawns { frames := 254, cells := 0, slots := 0, locals := 6237 } (po (.returned none) r.2) 0 0 0 0 183 [some (.ref p0), some (.int l1), some (.int l2), some (.int l3), some (.int l4), some (.int l5), none, some (.int l7), none, none, none] [.int w0] (hpw H) := by
  unfold B_MRunner_spawns_183 at hF
  refine ab_istore (lv' := [some (.ref p0), some (.int l1), some (.int l2), some (.int l3), some (.int l4), some (.int l5), some (.int w0), some (.int l7), none, none, none]) d_MRunner_spawns_183 (by decide) rfl ?_
  refine ab_iinc (v := l2 + 1) (lv' := [some (.ref p0), some (.int l1), some (.int (l2 + 1)), some (.int l3), some (.int l4), some (.int l5), some (.int w0), some (.int l7), none, none, none]) d_MRunner_spawns_185 rfl rfl (by decide) rfl ?_
  refine ab_aload_n d_MRunner_spawns_188 rfl rfl rfl ?_
  obtain ⟨q159, hG⟩ := ck_s hF; clear hF
  obtain ⟨a160, e161, hF⟩ := rf_s hG; clear hG
  refine hp_getR (f := 0) d_MRunner_spawns_189 q159 (by decide) rfl (by decide) (k9 183 rfl rfl) rfl e161 ?_
  obtain ⟨q162, hG⟩ := ck_s hF; clear hF
  obtain ⟨a163, e164, hF⟩ := rf_s hG; clear hG
  refine hp_getRN (f := 3) d_MRunner_spawns_192 q162 (by decide) rfl (by decide) (k8 163 rfl rfl) rfl e164 ?_
  refine ab_aload_n d_MRunner_spawns_195 rfl rfl rfl ?_
  refine hp_getI (f := 11) d_MRunner_spawns_196 q159 (by decide) rfl (by decide) (k9 194 rfl rfl) rfl ?_
  refine ab_topi (fun x165 ex165 => ?_)
  replace hF := bnd_s ex165 hF
  obtain ⟨n166, q167, hG⟩ := ar_s hF; clear hF
  obtain ⟨q168, hF⟩ := ck_s hG; clear hG
  refine hp_iald d_MRunner_spawns_199 tI q167 q168 ?_
  refine ab_topi (fun x169 ex169 => ?_)
  replace hF := bnd_s ex169 hF
  refine ab_bipush (v := 44) d_MRunner_spawns_200 (by decide) ?_
  refine ab_icmp_ne (tgt := 209) d_MRunner_spawns_202 (by decide) (fun q170 => ?_) (fun q170 => ?_)
  · rw [if_neg q170] at hF
    refine ab_iconst (v := 0) d_MRunner_spawns_209 (by decide) ?_
    exact kB_MRunner_spawns_210 hm63 hk63 hF
  · rw [if_pos q170] at hF
    refine ab_iconst (v := 1) d_MRunner_spawns_205 (by decide) ?_
    refine ab_goto (tgt := 210) d_MRunner_spawns_206 (by decide) ?_
    exact kB_MRunner_spawns_210 hm63 hk63 hF
def B_MRunner_spawns_169 (N : Nat) (p0 : Nat) (kq63 : Int32 → Int32 → Int32 → Int32 → Int32 → Int32 → Int32 → Int32 → Hp → Option (Unit × Hp)) (l1 : Int32) (l2 : Int32) (l3 : Int32) (l4 : Int32) (l6 : Int32) (l7 : Int32) (l10 : Int32) (w0 : Int32) (H : Hp) : Option (Unit × Hp) :=
    if l2 = (3 : Int32) then
    B_MRunner_spawns_183 N p0 kq63 l1 l2 l3 l4 w0 l7 l10 H
    else
    B_MRunner_spawns_183 N p0 kq63 l1 l2 l3 l4 w0 l7 l6 H
set_option maxRecDepth 20000 in
set_option maxHeartbeats 2000000 in
theorem mB_MRunner_spawns_169 {N : Nat} {p0 : Nat} {kq63 : Int32 → Int32 → Int32 → Int32 → Int32 → Int32 → Int32 → Int32 → Hp → Option (Unit × Hp)} (hm63 : ∀ (l1 : Int32) (l2 : Int32) (l3 : Int32) (l4 : Int32) (l5 : Int32) (l6 : Int32) (l7 : Int32) (l8 : Int32) (H : Hp) (r : Unit × Hp), kq63 l1 l2 l3 l4 l5 l6 l7 l8 H = some r → Sa H r.2) {l1 : Int32} {l2 : Int32} {l3 : Int32} {l4 : Int32} {l6 : Int32} {l7 : Int32} {l10 : Int32} {w0 : Int32} {H : Hp} {r : Unit × Hp} (hF : B_MRunner_spawns_169 N p0 kq63 l1 l2 l3 l4 l6 l7 l10 w0 H = some r) : Sa H r.2 := by
  unfold B_MRunner_spawns_169 at hF
  have hm := Sa.rf H
  rcases ite_s hF with ⟨q_28, hG⟩ | ⟨q_28, hG⟩
  · clear hF
    exact hm.tr (mB_MRunner_spawns_183 hm63 hG)
  · clear hF
    exact hm.tr (mB_MRunner_spawns_183 hm63 hG)
set_option maxRecDepth 20000 in
set_option maxHeartbeats 2000000 in
theorem kB_MRunner_spawns_169 {N : Nat} {p0 : Nat} {kq63 : Int32 → Int32 → Int32 → Int32 → Int32 → Int32 → Int32 → Int32 → Hp → Option (Unit × Hp)} (hm63 : ∀ (l1 : Int32) (l2 : Int32) (l3 : Int32) (l4 : Int32) (l5 : Int32) (l6 : Int32) (l7 : Int32) (l8 : Int32) (H : Hp) (r : Unit × Hp), kq63 l1 l2 l3 l4 l5 l6 l7 l8 H = some r → Sa H r.2) (hk63 : ∀ (l1 : Int32) (l2 : Int32) (l3 : Int32) (l4 : Int32) (l5 : Int32) (l6 : Int32) (l7 : Int32) (l8 : Int32) (H : Hp) (r : Unit × Hp), kq63 l1 l2 l3 l4 l5 l6 l7 l8 H = some r → ab_V y_MRunner_spawns { frames := 254, cells := 0, slots := 0, locals := 6237 } (po (.returned none) r.2) 0 0 0 0 63 [some (.ref p0), some (.int l1), some (.int l2), some (.int l3), some (.int l4), some (.int l5), some (.int l6), some (.int l7), some (.int l8), none, none] [] (hpw H)) {l1 : Int32} {l2 : Int32} {l3 : Int32} {l4 : Int32} {l6 : Int32} {l7 : Int32} {l10 : Int32} {w0 : Int32} {H : Hp} {r : Unit × Hp} (hF : B_MRunner_spawns_169 N p0 kq63 l1 l2 l3 l4 l6 l7 l10 w0 H = some r) : ab_V y_MRunner_spawns { frames := 254, cells := 0, slots := 0, locals := 6237 } (po (.returned none) r.2) 0 0 0 0 169 [some (.ref p0), some (.int l1), some (.int l2), some (.int l3), some (.int l4), none, some (.int l6), some (.int l7), none, none, some (.int l10)] [.int w0] (hpw H) := by
  unfold B_MRunner_spawns_169 at hF
  refine ab_istore (lv' := [some (.ref p0), some (.int l1), some (.int l2), some (.int l3), some (.int l4), some (.int w0), some (.int l6), some (.int l7), none, none, some (.int l10)]) d_MRunner_spawns_169 (by decide) rfl ?_
  refine ab_iload_n d_MRunner_spawns_171 rfl rfl ?_
  refine ab_iconst (v := 3) d_MRunner_spawns_172 (by decide) ?_
  refine ab_icmp_ne (tgt := 181) d_MRunner_spawns_173 (by decide) (fun q158 => ?_) (fun q158 => ?_)
  · rw [if_neg q158] at hF
    refine ab_iload d_MRunner_spawns_181 rfl ?_
    refine ab_le (lv' := [some (.ref p0), some (.int l1), some (.int l2), some (.int l3), some (.int l4), some (.int w0), none, some (.int l7), none, none, none]) ⟨rfl, ⟨rfl, ⟨rfl, ⟨rfl, ⟨rfl, ⟨rfl, ⟨rfl, trivial⟩⟩⟩⟩⟩⟩⟩ ?_
    exact kB_MRunner_spawns_183 hm63 hk63 hF
  · rw [if_pos q158] at hF
    refine ab_iload d_MRunner_spawns_176 rfl ?_
    refine ab_goto (tgt := 183) d_MRunner_spawns_178 (by decide) ?_
    refine ab_le (lv' := [some (.ref p0), some (.int l1), some (.int l2), some (.int l3), some (.int l4), some (.int w0), none, some (.int l7), none, none, none]) ⟨rfl, ⟨rfl, ⟨rfl, ⟨rfl, ⟨rfl, ⟨rfl, ⟨rfl, trivial⟩⟩⟩⟩⟩⟩⟩ ?_
    exact kB_MRunner_spawns_183 hm63 hk63 hF
def B_MRunner_spawns_155 (N : Nat) (p0 : Nat) (kq63 : Int32 → Int32 → Int32 → Int32 → Int32 → Int32 → Int32 → Int32 → Hp → Option (Unit × Hp)) (l1 : Int32) (l2 : Int32) (l3 : Int32) (l5 : Int32) (l6 : Int32) (l7 : Int32) (l10 : Int32) (w0 : Int32) (H : Hp) : Option (Unit × Hp) :=
    if l2 = (2 : Int32) then
    B_MRunner_spawns_169 N p0 kq63 l1 l2 l3 w0 l6 l7 l10 l10 H
    else
    B_MRunner_spawns_169 N p0 kq63 l1 l2 l3 w0 l6 l7 l10 l5 H
set_option maxRecDepth 20000 in
set_option maxHeartbeats 2000000 in
theorem mB_MRunner_spawns_155 {N : Nat} {p0 : Nat} {kq63 : Int32 → Int32 → Int32 → Int32 → Int32 → Int32 → Int32 → Int32 → Hp → Option (Unit × Hp)} (hm63 : ∀ (l1 : Int32) (l2 : Int32) (l3 : Int32) (l4 : Int32) (l5 : Int32) (l6 : Int32) (l7 : Int32) (l8 : Int32) (H : Hp) (r : Unit × Hp), kq63 l1 l2 l3 l4 l5 l6 l7 l8 H = some r → Sa H r.2) {l1 : Int32} {l2 : Int32} {l3 : Int32} {l5 : Int32} {l6 : Int32} {l7 : Int32} {l10 : Int32} {w0 : Int32} {H : Hp} {r : Unit × Hp} (hF : B_MRunner_spawns_155 N p0 kq63 l1 l2 l3 l5 l6 l7 l10 w0 H = some r) : Sa H r.2 := by
  unfold B_MRunner_spawns_155 at hF
  have hm := Sa.rf H
  rcases ite_s hF with ⟨q_29, hG⟩ | ⟨q_29, hG⟩
  · clear hF
    exact hm.tr (mB_MRunner_spawns_169 hm63 hG)
  · clear hF
    exact hm.tr (mB_MRunner_spawns_169 hm63 hG)
set_option maxRecDepth 20000 in
set_option maxHeartbeats 2000000 in
theorem kB_MRunner_spawns_155 {N : Nat} {p0 : Nat} {kq63 : Int32 → Int32 → Int32 → Int32 → Int32 → Int32 → Int32 → Int32 → Hp → Option (Unit × Hp)} (hm63 : ∀ (l1 : Int32) (l2 : Int32) (l3 : Int32) (l4 : Int32) (l5 : Int32) (l6 : Int32) (l7 : Int32) (l8 : Int32) (H : Hp) (r : Unit × Hp), kq63 l1 l2 l3 l4 l5 l6 l7 l8 H = some r → Sa H r.2) (hk63 : ∀ (l1 : Int32) (l2 : Int32) (l3 : Int32) (l4 : Int32) (l5 : Int32) (l6 : Int32) (l7 : Int32) (l8 : Int32) (H : Hp) (r : Unit × Hp), kq63 l1 l2 l3 l4 l5 l6 l7 l8 H = some r → ab_V y_MRunner_spawns { frames := 254, cells := 0, slots := 0, locals := 6237 } (po (.returned none) r.2) 0 0 0 0 63 [some (.ref p0), some (.int l1), some (.int l2), some (.int l3), some (.int l4), some (.int l5), some (.int l6), some (.int l7), some (.int l8), none, none] [] (hpw H)) {l1 : Int32} {l2 : Int32} {l3 : Int32} {l5 : Int32} {l6 : Int32} {l7 : Int32} {l10 : Int32} {w0 : Int32} {H : Hp} {r : Unit × Hp} (hF : B_MRunner_spawns_155 N p0 kq63 l1 l2 l3 l5 l6 l7 l10 w0 H = some r) : ab_V y_MRunner_spawns { frames := 254, cells := 0, slots := 0, locals := 6237 } (po (.returned none) r.2) 0 0 0 0 155 [some (.ref p0), some (.int l1), some (.int l2), some (.int l3), none, some (.int l5), some (.int l6), some (.int l7), none, none, some (.int l10)] [.int w0] (hpw H) := by
  unfold B_MRunner_spawns_155 at hF
  refine ab_istore (lv' := [some (.ref p0), some (.int l1), some (.int l2), some (.int l3), some (.int w0), some (.int l5), some (.int l6), some (.int l7), none, none, some (.int l10)]) d_MRunner_spawns_155 (by decide) rfl ?_
  refine ab_iload_n d_MRunner_spawns_157 rfl rfl ?_
  refine ab_iconst (v := 2) d_MRunner_spawns_158 (by decide) ?_
  refine ab_icmp_ne (tgt := 167) d_MRunner_spawns_159 (by decide) (fun q157 => ?_) (fun q157 => ?_)
  · rw [if_neg q157] at hF
    refine ab_iload d_MRunner_spawns_167 rfl ?_
    refine ab_le (lv' := [some (.ref p0), some (.int l1), some (.int l2), some (.int l3), some (.int w0), none, some (.int l6), some (.int l7), none, none, some (.int l10)]) ⟨rfl, ⟨rfl, ⟨rfl, ⟨rfl, ⟨rfl, ⟨rfl, ⟨rfl, ⟨rfl, trivial⟩⟩⟩⟩⟩⟩⟩⟩ ?_
    exact kB_MRunner_spawns_169 hm63 hk63 hF
  · rw [if_pos q157] at hF
    refine ab_iload d_MRunner_spawns_162 rfl ?_
    refine ab_goto (tgt := 169) d_MRunner_spawns_164 (by decide) ?_
    refine ab_le (lv' := [some (.ref p0), some (.int l1), some (.int l2), some (.int l3), some (.int w0), none, some (.int l6), some (.int l7), none, none, some (.int l10)]) ⟨rfl, ⟨rfl, ⟨rfl, ⟨rfl, ⟨rfl, ⟨rfl, ⟨rfl, ⟨rfl, trivial⟩⟩⟩⟩⟩⟩⟩⟩ ?_
    exact kB_MRunner_spawns_169 hm63 hk63 hF
def B_MRunner_spawns_142 (N : Nat) (p0 : Nat) (kq63 : Int32 → Int32 → Int32 → Int32 → Int32 → Int32 → Int32 → Int32 → Hp → Option (Unit × Hp)) (l1 : Int32) (l2 : Int32) (l4 : Int32) (l5 : Int32) (l6 : Int32) (l7 : Int32) (l10 : Int32) (w0 : Int32) (H : Hp) : Option (Unit × Hp) :=
    if l2 = (1 : Int32) then
    B_MRunner_spawns_155 N p0 kq63 l1 l2 w0 l5 l6 l7 l10 l10 H
    else
    B_MRunner_spawns_155 N p0 kq63 l1 l2 w0 l5 l6 l7 l10 l4 H
set_option maxRecDepth 20000 in
set_option maxHeartbeats 2000000 in
theorem mB_MRunner_spawns_142 {N : Nat} {p0 : Nat} {kq63 : Int32 → Int32 → Int32 → Int32 → Int32 → Int32 → Int32 → Int32 → Hp → Option (Unit × Hp)} (hm63 : ∀ (l1 : Int32) (l2 : Int32) (l3 : Int32) (l4 : Int32) (l5 : Int32) (l6 : Int32) (l7 : Int32) (l8 : Int32) (H : Hp) (r : Unit × Hp), kq63 l1 l2 l3 l4 l5 l6 l7 l8 H = some r → Sa H r.2) {l1 : Int32} {l2 : Int32} {l4 : Int32} {l5 : Int32} {l6 : Int32} {l7 : Int32} {l10 : Int32} {w0 : Int32} {H : Hp} {r : Unit × Hp} (hF : B_MRunner_spawns_142 N p0 kq63 l1 l2 l4 l5 l6 l7 l10 w0 H = some r) : Sa H r.2 := by
  unfold B_MRunner_spawns_142 at hF
  have hm := Sa.rf H
  rcases ite_s hF with ⟨q_30, hG⟩ | ⟨q_30, hG⟩
  · clear hF
    exact hm.tr (mB_MRunner_spawns_155 hm63 hG)
  · clear hF
    exact hm.tr (mB_MRunner_spawns_155 hm63 hG)
set_option maxRecDepth 20000 in
set_option maxHeartbeats 2000000 in
theorem kB_MRunner_spawns_142 {N : Nat} {p0 : Nat} {kq63 : Int32 → Int32 → Int32 → Int32 → Int32 → Int32 → Int32 → Int32 → Hp → Option (Unit × Hp)} (hm63 : ∀ (l1 : Int32) (l2 : Int32) (l3 : Int32) (l4 : Int32) (l5 : Int32) (l6 : Int32) (l7 : Int32) (l8 : Int32) (H : Hp) (r : Unit × Hp), kq63 l1 l2 l3 l4 l5 l6 l7 l8 H = some r → Sa H r.2) (hk63 : ∀ (l1 : Int32) (l2 : Int32) (l3 : Int32) (l4 : Int32) (l5 : Int32) (l6 : Int32) (l7 : Int32) (l8 : Int32) (H : Hp) (r : Unit × Hp), kq63 l1 l2 l3 l4 l5 l6 l7 l8 H = some r → ab_V y_MRunner_spawns { frames := 254, cells := 0, slots := 0, locals := 6237 } (po (.returned none) r.2) 0 0 0 0 63 [some (.ref p0), some (.int l1), some (.int l2), some (.int l3), some (.int l4), some (.int l5), some (.int l6), some (.int l7), some (.int l8), none, none] [] (hpw H)) {l1 : Int32} {l2 : Int32} {l4 : Int32} {l5 : Int32} {l6 : Int32} {l7 : Int32} {l10 : Int32} {w0 : Int32} {H : Hp} {r : Unit × Hp} (hF : B_MRunner_spawns_142 N p0 kq63 l1 l2 l4 l5 l6 l7 l10 w0 H = some r) : ab_V y_MRunner_spawns { frames := 254, cells := 0, slots := 0, locals := 6237 } (po (.returned none) r.2) 0 0 0 0 142 [some (.ref p0), some (.int l1), some (.int l2), none, some (.int l4), some (.int l5), some (.int l6), some (.int l7), none, none, some (.int l10)] [.int w0] (hpw H) := by
  unfold B_MRunner_spawns_142 at hF
  refine ab_istore_n (lv' := [some (.ref p0), some (.int l1), some (.int l2), some (.int w0), some (.int l4), some (.int l5), some (.int l6), some (.int l7), none, none, some (.int l10)]) d_MRunner_spawns_142 rfl (by decide) rfl ?_
  refine ab_iload_n d_MRunner_spawns_143 rfl rfl ?_
  refine ab_iconst (v := 1) d_MRunner_spawns_144 (by decide) ?_
  refine ab_icmp_ne (tgt := 153) d_MRunner_spawns_145 (by decide) (fun q156 => ?_) (fun q156 => ?_)
  · rw [if_neg q156] at hF
    refine ab_iload d_MRunner_spawns_153 rfl ?_
    refine ab_le (lv' := [some (.ref p0), some (.int l1), some (.int l2), some (.int w0), none, some (.int l5), some (.int l6), some (.int l7), none, none, some (.int l10)]) ⟨rfl, ⟨rfl, ⟨rfl, ⟨rfl, ⟨rfl, ⟨rfl, ⟨rfl, ⟨rfl, trivial⟩⟩⟩⟩⟩⟩⟩⟩ ?_
    exact kB_MRunner_spawns_155 hm63 hk63 hF
  · rw [if_pos q156] at hF
    refine ab_iload d_MRunner_spawns_148 rfl ?_
    refine ab_goto (tgt := 155) d_MRunner_spawns_150 (by decide) ?_
    refine ab_le (lv' := [some (.ref p0), some (.int l1), some (.int l2), some (.int w0), none, some (.int l5), some (.int l6), some (.int l7), none, none, some (.int l10)]) ⟨rfl, ⟨rfl, ⟨rfl, ⟨rfl, ⟨rfl, ⟨rfl, ⟨rfl, ⟨rfl, trivial⟩⟩⟩⟩⟩⟩⟩⟩ ?_
    exact kB_MRunner_spawns_155 hm63 hk63 hF
def B_MRunner_spawns_63 (N : Nat) (p0 : Nat) : Nat → Int32 → Int32 → Int32 → Int32 → Int32 → Int32 → Int32 → Int32 → Hp → Option (Unit × Hp)
  | 0, _, _, _, _, _, _, _, _, _ => none
  | n + 1, l1, l2, l3, l4, l5, l6, l7, l8, H =>
    if l8 = (0 : Int32) then
    B_MRunner_spawns_234 N p0 l1 l2 l3 l4 l5 l6 l7 H
    else
    ck (H.sh[p0]? = some (15, 0)) <|
    bnd ((H.D p0 10)) fun x125 =>
    if x125 = (0 : Int32) then
    rf (H.P p0 0) fun a127 =>
    ck (H.sh[a127]? = some (14, 0)) <|
    rf (H.P a127 8) fun a130 =>
    bnd ((H.D p0 11)) fun x132 =>
    ar H 100 a130 fun n133 =>
    ck (inb (x132 + (3 : Int32)) n133) <|
    bnd ((H.D a130 ((x132 + (3 : Int32))).toNatClampNeg)) fun x136 =>
    bnd ((H.D p0 11)) fun x137 =>
    bnd (H.sD p0 11 (x137 + (5 : Int32))) fun H138 =>
    rf (H138.P p0 0) fun a139 =>
    ck (H138.sh[a139]? = some (14, 0)) <|
    rf (H138.P a139 19) fun a142 =>
    ar H138 100 a142 fun n144 =>
    ck (inb x136 n144) <|
    bnd ((H138.D a142 (x136).toNatClampNeg)) fun x147 =>
    bC ((X_RunE N 50).1 p0 H138) fun v149 H150 =>
    bC (F_MRunner_given N x147 v149 H150) fun v152 H153 =>
    bnd ((l7 ||| (x136 <<< (((8 : Int32) * l2) &&& 31)))) fun x154 =>
    if l2 = (0 : Int32) then
    B_MRunner_spawns_142 N p0 (fun l1 l2 l3 l4 l5 l6 l7 l8 H => B_MRunner_spawns_63 N p0 n l1 l2 l3 l4 l5 l6 l7 l8 H) l1 l2 l4 l5 l6 x154 v152 v152 H153
    else
    B_MRunner_spawns_142 N p0 (fun l1 l2 l3 l4 l5 l6 l7 l8 H => B_MRunner_spawns_63 N p0 n l1 l2 l3 l4 l5 l6 l7 l8 H) l1 l2 l4 l5 l6 x154 v152 l3 H153
    else
    B_MRunner_spawns_234 N p0 l1 l2 l3 l4 l5 l6 l7 H
termination_by structural n => n
set_option maxRecDepth 20000 in
set_option maxHeartbeats 2000000 in
theorem mB_MRunner_spawns_63 {N : Nat} {p0 : Nat} : ∀ (n : Nat) (l1 : Int32) (l2 : Int32) (l3 : Int32) (l4 : Int32) (l5 : Int32) (l6 : Int32) (l7 : Int32) (l8 : Int32) (H : Hp) (r : Unit × Hp), B_MRunner_spawns_63 N p0 n l1 l2 l3 l4 l5 l6 l7 l8 H = some r → Sa H r.2 := by
  intro n
  induction n with
  | zero => intro l1 l2 l3 l4 l5 l6 l7 l8 H r hF; rw [B_MRunner_spawns_63] at hF; cases hF
  | succ n ih =>
    intro l1 l2 l3 l4 l5 l6 l7 l8 H r hF
    rw [B_MRunner_spawns_63] at hF
    have hm := Sa.rf H
    rcases ite_s hF with ⟨q_31, hG⟩ | ⟨q_31, hG⟩
    · clear hF
      exact hm.tr (mB_MRunner_spawns_234 hG)
    · clear hF
      obtain ⟨q197, hF⟩ := ck_s hG; clear hG
      obtain ⟨x198, -, hG⟩ := bnd_g hF; clear hF
      rcases ite_s hG with ⟨q_32, hF⟩ | ⟨q_32, hF⟩
      · clear hG
        obtain ⟨a200, e201, hG⟩ := rf_s hF; clear hF
        obtain ⟨q202, hF⟩ := ck_s hG; clear hG
        obtain ⟨a203, e204, hG⟩ := rf_s hF; clear hF
        obtain ⟨x205, -, hF⟩ := bnd_g hG; clear hG
        obtain ⟨n206, q207, hG⟩ := ar_s hF; clear hF
        obtain ⟨q208, hF⟩ := ck_s hG; clear hG
        obtain ⟨x209, -, hG⟩ := bnd_g hF; clear hF
        obtain ⟨x210, -, hF⟩ := bnd_g hG; clear hG
        obtain ⟨H211, eH211, hG⟩ := bnd_g hF; clear hF
        replace hm : Sa H H211 := by rw [eH211]; exact hm
        obtain ⟨a212, e213, hF⟩ := rf_s hG; clear hG
        obtain ⟨q214, hG⟩ := ck_s hF; clear hF
        obtain ⟨a215, e216, hF⟩ := rf_s hG; clear hG
        obtain ⟨n217, q218, hG⟩ := ar_s hF; clear hF
        obtain ⟨q219, hF⟩ := ck_s hG; clear hG
        obtain ⟨x220, -, hG⟩ := bnd_g hF; clear hF
        obtain ⟨v222, H223, z221, hF⟩ := bC_s hG; clear hG
        replace hm : Sa H H223 := hm.tr ((moX_RunE 50).1 _ _ _ z221)
        obtain ⟨v225, H226, z224, hG⟩ := bC_s hF; clear hF
        replace hm : Sa H H226 := hm.tr (m_MRunner_given z224)
        obtain ⟨x227, -, hF⟩ := bnd_g hG; clear hG
        rcases ite_s hF with ⟨q_36, hG⟩ | ⟨q_36, hG⟩
        · clear hF
          exact hm.tr (mB_MRunner_spawns_142 ih hG)
        · clear hF
          exact hm.tr (mB_MRunner_spawns_142 ih hG)
      · clear hG
        exact hm.tr (mB_MRunner_spawns_234 hF)
set_option maxRecDepth 20000 in
set_option maxHeartbeats 2000000 in
theorem kB_MRunner_spawns_63 {N : Nat} {p0 : Nat} : ∀ (n : Nat) (l1 : Int32) (l2 : Int32) (l3 : Int32) (l4 : Int32) (l5 : Int32) (l6 : Int32) (l7 : Int32) (l8 : Int32) (H : Hp) (r : Unit × Hp), B_MRunner_spawns_63 N p0 n l1 l2 l3 l4 l5 l6 l7 l8 H = some r → ab_V y_MRunner_spawns { frames := 254, cells := 0, slots := 0, locals := 6237 } (po (.returned none) r.2) 0 0 0 0 63 [some (.ref p0), some (.int l1), some (.int l2), some (.int l3), some (.int l4), some (.int l5), some (.int l6), some (.int l7), some (.int l8), none, none] [] (hpw H) := by
  intro n
  induction n with
  | zero => intro l1 l2 l3 l4 l5 l6 l7 l8 H r hF; rw [B_MRunner_spawns_63] at hF; cases hF
  | succ n ih =>
    intro l1 l2 l3 l4 l5 l6 l7 l8 H r hF
    rw [B_MRunner_spawns_63] at hF
    refine ab_iload d_MRunner_spawns_63 rfl ?_
    refine ab_if_eq (tgt := 234) d_MRunner_spawns_65 (by decide) (fun q25 => ?_) (fun q25 => ?_)
    · rw [if_pos q25] at hF
      refine ab_le (lv' := [some (.ref p0), some (.int l1), some (.int l2), some (.int l3), some (.int l4), some (.int l5), some (.int l6), some (.int l7), none, none, none]) ⟨rfl, ⟨rfl, ⟨rfl, ⟨rfl, ⟨rfl, ⟨rfl, ⟨rfl, ⟨rfl, trivial⟩⟩⟩⟩⟩⟩⟩⟩ ?_
      exact kB_MRunner_spawns_234 hF
    · rw [if_neg q25] at hF
      refine ab_aload_n d_MRunner_spawns_68 rfl rfl rfl ?_
      obtain ⟨q124, hG⟩ := ck_s hF; clear hF
      refine hp_getI (f := 10) d_MRunner_spawns_69 q124 (by decide) rfl (by decide) (k9 193 rfl rfl) rfl ?_
      refine ab_topi (fun x125 ex125 => ?_)
      replace hG := bnd_s ex125 hG
      refine ab_if_ne (tgt := 234) d_MRunner_spawns_72 (by decide) (fun q126 => ?_) (fun q126 => ?_)
      · rw [if_neg q126] at hG
        refine ab_le (lv' := [some (.ref p0), some (.int l1), some (.int l2), some (.int l3), some (.int l4), some (.int l5), some (.int l6), some (.int l7), none, none, none]) ⟨rfl, ⟨rfl, ⟨rfl, ⟨rfl, ⟨rfl, ⟨rfl, ⟨rfl, ⟨rfl, trivial⟩⟩⟩⟩⟩⟩⟩⟩ ?_
        exact kB_MRunner_spawns_234 hG
      · rw [if_pos q126] at hG
        refine ab_aload_n d_MRunner_spawns_75 rfl rfl rfl ?_
        obtain ⟨a127, e128, hF⟩ := rf_s hG; clear hG
        refine hp_getR (f := 0) d_MRunner_spawns_76 q124 (by decide) rfl (by decide) (k9 183 rfl rfl) rfl e128 ?_
        obtain ⟨q129, hG⟩ := ck_s hF; clear hF
        obtain ⟨a130, e131, hF⟩ := rf_s hG; clear hG
        refine hp_getRN (f := 8) d_MRunner_spawns_79 q129 (by decide) rfl (by decide) (k8 170 rfl rfl) rfl e131 ?_
        refine ab_aload_n d_MRunner_spawns_82 rfl rfl rfl ?_
        refine hp_getI (f := 11) d_MRunner_spawns_83 q124 (by decide) rfl (by decide) (k9 194 rfl rfl) rfl ?_
        refine ab_topi (fun x132 ex132 => ?_)
        replace hF := bnd_s ex132 hF
        refine ab_iconst (v := 3) d_MRunner_spawns_86 (by decide) ?_
        refine ab_iadd d_MRunner_spawns_87 ?_
        obtain ⟨n133, q134, hG⟩ := ar_s hF; clear hF
        obtain ⟨q135, hF⟩ := ck_s hG; clear hG
        refine hp_iald d_MRunner_spawns_88 tI q134 q135 ?_
        refine ab_topi (fun x136 ex136 => ?_)
        replace hF := bnd_s ex136 hF
        refine ab_istore (lv' := [some (.ref p0), some (.int l1), some (.int l2), some (.int l3), some (.int l4), some (.int l5), some (.int l6), some (.int l7), some (.int l8), some (.int x136), none]) d_MRunner_spawns_89 (by decide) rfl ?_
        refine ab_aload_n d_MRunner_spawns_91 rfl rfl rfl ?_
        refine ab_dup d_MRunner_spawns_92 rfl ?_
        refine hp_getI (f := 11) d_MRunner_spawns_93 q124 (by decide) rfl (by decide) (k9 194 rfl rfl) rfl ?_
        refine ab_topi (fun x137 ex137 => ?_)
        replace hF := bnd_s ex137 hF
        refine ab_iconst (v := 5) d_MRunner_spawns_96 (by decide) ?_
        refine ab_iadd d_MRunner_spawns_97 ?_
        refine hp_putI (v := x137 + (5 : Int32)) (f := 11) d_MRunner_spawns_98 q124 (by decide) rfl (by decide) (k9 194 rfl rfl) rfl rfl (fun _ => rfl) (fun _ => rfl) rfl ?_
        refine hp_gen (fun H138 eH138 => ?_)
        replace hF := bnd_s eH138 hF
        have s_21 : Sa H H138 := by rw [eH138]; exact Sa.rf _
        refine ab_aload_n d_MRunner_spawns_101 rfl rfl rfl ?_
        obtain ⟨a139, e140, hG⟩ := rf_s hF; clear hF
        refine hp_getR (f := 0) d_MRunner_spawns_102 (by rw [(s_21).1]; exact q124) (by decide) rfl (by decide) (k9 183 rfl rfl) rfl e140 ?_
        obtain ⟨q141, hF⟩ := ck_s hG; clear hG
        rw [(s_21).1] at q141
        obtain ⟨a142, e143, hG⟩ := rf_s hF; clear hF
        refine hp_getRN (f := 19) d_MRunner_spawns_105 (by rw [(s_21).1]; exact q141) (by decide) rfl (by decide) (k8 189 rfl rfl) rfl e143 ?_
        refine ab_iload d_MRunner_spawns_108 rfl ?_
        obtain ⟨n144, q145, hF⟩ := ar_s hG; clear hG
        rw [(s_21).1] at q145
        obtain ⟨q146, hG⟩ := ck_s hF; clear hF
        refine hp_iald d_MRunner_spawns_110 tI (by rw [(s_21).1]; exact q145) q146 ?_
        refine ab_topi (fun x147 ex147 => ?_)
        replace hG := bnd_s ex147 hG
        refine ab_aload_n d_MRunner_spawns_111 rfl rfl rfl ?_
        obtain ⟨v149, H150, z148, hF⟩ := bC_s hG; clear hG
        refine hp_callV_a (v := .int v149) (H1 := H150) (As := []) (rest := [.int x147]) d_MRunner_spawns_112 ((okX_RunE 50).2.2.1 _ _ _ z148) (ab_mkC s_MRunner_value (Nat.le_of_ble_eq_true rfl) (Nat.le_of_ble_eq_true rfl) (Nat.le_refl 0) (Nat.le_refl 0)) (k12 10 rfl rfl) i_MRunner_value v_MRunner_value (by rw [(s_21).1]; exact q124) (by decide) rfl rfl (Nat.le_of_ble_eq_true rfl) ?_
        have s_22 : Sa H H150 := (s_21).tr ((moX_RunE 50).1 _ _ _ z148)
        obtain ⟨v152, H153, z151, hG⟩ := bC_s hF; clear hF
        refine hp_callS_a (v := .int v152) (H1 := H153) (As := [.int x147, .int v149]) (rest := []) d_MRunner_spawns_115 (k_MRunner_given z151) (ab_mkC s_MRunner_given (Nat.le_of_ble_eq_true rfl) (Nat.le_of_ble_eq_true rfl) (Nat.le_refl 0) (Nat.le_refl 0)) (k12 85 rfl rfl) t_MRunner_given rfl (Nat.le_of_ble_eq_true rfl) ?_
        have s_23 : Sa H H153 := (s_22).tr (m_MRunner_given z151)
        refine ab_istore (lv' := [some (.ref p0), some (.int l1), some (.int l2), some (.int l3), some (.int l4), some (.int l5), some (.int l6), some (.int l7), some (.int l8), some (.int x136), some (.int v152)]) d_MRunner_spawns_118 (by decide) rfl ?_
        refine ab_iload d_MRunner_spawns_120 rfl ?_
        refine ab_iload d_MRunner_spawns_122 rfl ?_
        refine ab_bipush (v := 8) d_MRunner_spawns_124 (by decide) ?_
        refine ab_iload_n d_MRunner_spawns_126 rfl rfl ?_
        refine ab_imul d_MRunner_spawns_127 ?_
        refine ab_ishl d_MRunner_spawns_128 ?_
        refine ab_ior d_MRunner_spawns_129 ?_
        refine ab_topi (fun x154 ex154 => ?_)
        replace hG := bnd_s ex154 hG
        refine ab_istore (lv' := [some (.ref p0), some (.int l1), some (.int l2), some (.int l3), some (.int l4), some (.int l5), some (.int l6), some (.int x154), some (.int l8), some (.int x136), some (.int v152)]) d_MRunner_spawns_130 (by decide) rfl ?_
        refine ab_iload_n d_MRunner_spawns_132 rfl rfl ?_
        refine ab_if_ne (tgt := 141) d_MRunner_spawns_133 (by decide) (fun q155 => ?_) (fun q155 => ?_)
        · rw [if_neg q155] at hG
          refine ab_iload_n d_MRunner_spawns_141 rfl rfl ?_
          refine ab_le (lv' := [some (.ref p0), some (.int l1), some (.int l2), none, some (.int l4), some (.int l5), some (.int l6), some (.int x154), none, none, some (.int v152)]) ⟨rfl, ⟨rfl, ⟨rfl, ⟨rfl, ⟨rfl, ⟨rfl, ⟨rfl, ⟨rfl, trivial⟩⟩⟩⟩⟩⟩⟩⟩ ?_
          exact kB_MRunner_spawns_142 (mB_MRunner_spawns_63 n) ih hG
        · rw [if_pos q155] at hG
          refine ab_iload d_MRunner_spawns_136 rfl ?_
          refine ab_goto (tgt := 142) d_MRunner_spawns_138 (by decide) ?_
          refine ab_le (lv' := [some (.ref p0), some (.int l1), some (.int l2), none, some (.int l4), some (.int l5), some (.int l6), some (.int x154), none, none, some (.int v152)]) ⟨rfl, ⟨rfl, ⟨rfl, ⟨rfl, ⟨rfl, ⟨rfl, ⟨rfl, ⟨rfl, trivial⟩⟩⟩⟩⟩⟩⟩⟩ ?_
          exact kB_MRunner_spawns_142 (mB_MRunner_spawns_63 n) ih hG
def B_MRunner_spawns_61 (N : Nat) (p0 : Nat) (l1 : Int32) (l2 : Int32) (l3 : Int32) (l4 : Int32) (l5 : Int32) (l6 : Int32) (l7 : Int32) (w0 : Int32) (H : Hp) : Option (Unit × Hp) :=
    B_MRunner_spawns_63 N p0 N l1 l2 l3 l4 l5 l6 l7 w0 H
set_option maxRecDepth 20000 in
set_option maxHeartbeats 2000000 in
theorem mB_MRunner_spawns_61 {N : Nat} {p0 : Nat} {l1 : Int32} {l2 : Int32} {l3 : Int32} {l4 : Int32} {l5 : Int32} {l6 : Int32} {l7 : Int32} {w0 : Int32} {H : Hp} {r : Unit × Hp} (hF : B_MRunner_spawns_61 N p0 l1 l2 l3 l4 l5 l6 l7 w0 H = some r) : Sa H r.2 := by
  unfold B_MRunner_spawns_61 at hF
  have hm := Sa.rf H
  exact hm.tr (mB_MRunner_spawns_63 N l1 l2 l3 l4 l5 l6 l7 w0 H r hF)
set_option maxRecDepth 20000 in
set_option maxHeartbeats 2000000 in
theorem kB_MRunner_spawns_61 {N : Nat} {p0 : Nat} {l1 : Int32} {l2 : Int32} {l3 : Int32} {l4 : Int32} {l5 : Int32} {l6 : Int32} {l7 : Int32} {w0 : Int32} {H : Hp} {r : Unit × Hp} (hF : B_MRunner_spawns_61 N p0 l1 l2 l3 l4 l5 l6 l7 w0 H = some r) : ab_V y_MRunner_spawns { frames := 254, cells := 0, slots := 0, locals := 6237 } (po (.returned none) r.2) 0 0 0 0 61 [some (.ref p0), some (.int l1), some (.int l2), some (.int l3), some (.int l4), some (.int l5), some (.int l6), some (.int l7), none, none, none] [.int w0] (hpw H) := by
  unfold B_MRunner_spawns_61 at hF
  refine ab_istore (lv' := [some (.ref p0), some (.int l1), some (.int l2), some (.int l3), some (.int l4), some (.int l5), some (.int l6), some (.int l7), some (.int w0), none, none]) d_MRunner_spawns_61 (by decide) rfl ?_
  exact kB_MRunner_spawns_63 N l1 l2 l3 l4 l5 l6 l7 w0 H r hF
def F_MRunner_spawns (N : Nat) (p0 : Nat) (H : Hp) : Option (Unit × Hp) :=
    ck (H.sh[p0]? = some (15, 0)) <|
    rf (H.P p0 0) fun a2 =>
    ck (H.sh[a2]? = some (14, 0)) <|
    rf (H.P a2 8) fun a5 =>
    bnd ((H.D p0 11)) fun x7 =>
    ar H 100 a5 fun n8 =>
    ck (inb x7 n8) <|
    bnd ((H.D a5 (x7).toNatClampNeg)) fun x11 =>
    bnd ((H.D p0 11)) fun x12 =>
    bnd (H.sD p0 11 (x12 + (1 : Int32))) fun H13 =>
    rf (H13.P p0 0) fun a14 =>
    ck (H13.sh[a14]? = some (14, 0)) <|
    rf (H13.P a14 3) fun a17 =>
    bnd ((H13.D p0 11)) fun x19 =>
    ar H13 100 a17 fun n20 =>
    ck (inb x19 n20) <|
    bnd ((H13.D a17 (x19).toNatClampNeg)) fun x23 =>
    if x23 = (40 : Int32) then
    B_MRunner_spawns_61 N p0 x11 0 0 0 0 0 0 1 H13
    else
    B_MRunner_spawns_61 N p0 x11 0 0 0 0 0 0 0 H13
set_option maxRecDepth 20000 in
set_option maxHeartbeats 2000000 in
theorem m_MRunner_spawns {N : Nat} {p0 : Nat} {H : Hp} {r : Unit × Hp} (hF : F_MRunner_spawns N p0 H = some r) : Sa H r.2 := by
  unfold F_MRunner_spawns at hF
  have hm := Sa.rf H
  obtain ⟨q229, hG⟩ := ck_s hF; clear hF
  obtain ⟨a230, e231, hF⟩ := rf_s hG; clear hG
  obtain ⟨q232, hG⟩ := ck_s hF; clear hF
  obtain ⟨a233, e234, hF⟩ := rf_s hG; clear hG
  obtain ⟨x235, -, hG⟩ := bnd_g hF; clear hF
  obtain ⟨n236, q237, hF⟩ := ar_s hG; clear hG
  obtain ⟨q238, hG⟩ := ck_s hF; clear hF
  obtain ⟨x239, -, hF⟩ := bnd_g hG; clear hG
  obtain ⟨x240, -, hG⟩ := bnd_g hF; clear hF
  obtain ⟨H241, eH241, hF⟩ := bnd_g hG; clear hG
  replace hm : Sa H H241 := by rw [eH241]; exact hm
  obtain ⟨a242, e243, hG⟩ := rf_s hF; clear hF
  obtain ⟨q244, hF⟩ := ck_s hG; clear hG
  obtain ⟨a245, e246, hG⟩ := rf_s hF; clear hF
  obtain ⟨x247, -, hF⟩ := bnd_g hG; clear hG
  obtain ⟨n248, q249, hG⟩ := ar_s hF; clear hF
  obtain ⟨q250, hF⟩ := ck_s hG; clear hG
  obtain ⟨x251, -, hG⟩ := bnd_g hF; clear hF
  rcases ite_s hG with ⟨q_38, hF⟩ | ⟨q_38, hF⟩
  · clear hG
    exact hm.tr (mB_MRunner_spawns_61 hF)
  · clear hG
    exact hm.tr (mB_MRunner_spawns_61 hF)
set_option maxRecDepth 20000 in
set_option maxHeartbeats 2000000 in
theorem k_MRunner_spawns {N : Nat} {p0 : Nat} {H : Hp} {r : Unit × Hp} (hF : F_MRunner_spawns N p0 H = some r) : ab_M y_MRunner_spawns { frames := 254, cells := 0, slots := 0, locals := 6237 } [.ref p0] (hpw H) (po (.returned none) r.2) := by
  unfold F_MRunner_spawns at hF
  refine ab_of2 (lv := [some (.ref p0), none, none, none, none, none, none, none, none, none, none]) 10 rfl rfl (Nat.le_of_ble_eq_true rfl) ?_
  refine ab_aload_n d_MRunner_spawns_0 rfl rfl rfl ?_
  obtain ⟨q1, hG⟩ := ck_s hF; clear hF
  obtain ⟨a2, e3, hF⟩ := rf_s hG; clear hG
  refine hp_getR (f := 0) d_MRunner_spawns_1 q1 (by decide) rfl (by decide) (k9 183 rfl rfl) rfl e3 ?_
  obtain ⟨q4, hG⟩ := ck_s hF; clear hF
  obtain ⟨a5, e6, hF⟩ := rf_s hG; clear hG
  refine hp_getRN (f := 8) d_MRunner_spawns_4 q4 (by decide) rfl (by decide) (k8 170 rfl rfl) rfl e6 ?_
  refine ab_aload_n d_MRunner_spawns_7 rfl rfl rfl ?_
  refine hp_getI (f := 11) d_MRunner_spawns_8 q1 (by decide) rfl (by decide) (k9 194 rfl rfl) rfl ?_
  refine ab_topi (fun x7 ex7 => ?_)
  replace hF := bnd_s ex7 hF
  obtain ⟨n8, q9, hG⟩ := ar_s hF; clear hF
  obtain ⟨q10, hF⟩ := ck_s hG; clear hG
  refine hp_iald d_MRunner_spawns_11 tI q9 q10 ?_
  refine ab_topi (fun x11 ex11 => ?_)
  replace hF := bnd_s ex11 hF
  refine ab_istore_n (lv' := [some (.ref p0), some (.int x11), none, none, none, none, none, none, none, none, none]) d_MRunner_spawns_12 rfl (by decide) rfl ?_
  refine ab_aload_n d_MRunner_spawns_13 rfl rfl rfl ?_
  refine ab_dup d_MRunner_spawns_14 rfl ?_
  refine hp_getI (f := 11) d_MRunner_spawns_15 q1 (by decide) rfl (by decide) (k9 194 rfl rfl) rfl ?_
  refine ab_topi (fun x12 ex12 => ?_)
  replace hF := bnd_s ex12 hF
  refine ab_iconst (v := 1) d_MRunner_spawns_18 (by decide) ?_
  refine ab_iadd d_MRunner_spawns_19 ?_
  refine hp_putI (v := x12 + (1 : Int32)) (f := 11) d_MRunner_spawns_20 q1 (by decide) rfl (by decide) (k9 194 rfl rfl) rfl rfl (fun _ => rfl) (fun _ => rfl) rfl ?_
  refine hp_gen (fun H13 eH13 => ?_)
  replace hF := bnd_s eH13 hF
  have s_1 : Sa H H13 := by rw [eH13]; exact Sa.rf _
  refine ab_iconst (v := 0) d_MRunner_spawns_23 (by decide) ?_
  refine ab_istore_n (lv' := [some (.ref p0), some (.int x11), some (.int 0), none, none, none, none, none, none, none, none]) d_MRunner_spawns_24 rfl (by decide) rfl ?_
  refine ab_iconst (v := 0) d_MRunner_spawns_25 (by decide) ?_
  refine ab_istore_n (lv' := [some (.ref p0), some (.int x11), some (.int 0), some (.int 0), none, none, none, none, none, none, none]) d_MRunner_spawns_26 rfl (by decide) rfl ?_
  refine ab_iconst (v := 0) d_MRunner_spawns_27 (by decide) ?_
  refine ab_istore (lv' := [some (.ref p0), some (.int x11), some (.int 0), some (.int 0), some (.int 0), none, none, none, none, none, none]) d_MRunner_spawns_28 (by decide) rfl ?_
  refine ab_iconst (v := 0) d_MRunner_spawns_30 (by decide) ?_
  refine ab_istore (lv' := [some (.ref p0), some (.int x11), some (.int 0), some (.int 0), some (.int 0), some (.int 0), none, none, none, none, none]) d_MRunner_spawns_31 (by decide) rfl ?_
  refine ab_iconst (v := 0) d_MRunner_spawns_33 (by decide) ?_
  refine ab_istore (lv' := [some (.ref p0), some (.int x11), some (.int 0), some (.int 0), some (.int 0), some (.int 0), some (.int 0), none, none, none, none]) d_MRunner_spawns_34 (by decide) rfl ?_
  refine ab_iconst (v := 0) d_MRunner_spawns_36 (by decide) ?_
  refine ab_istore (lv' := [some (.ref p0), some (.int x11), some (.int 0), some (.int 0), some (.int 0), some (.int 0), some (.int 0), some (.int 0), none, none, none]) d_MRunner_spawns_37 (by decide) rfl ?_
  refine ab_aload_n d_MRunner_spawns_39 rfl rfl rfl ?_
  obtain ⟨a14, e15, hG⟩ := rf_s hF; clear hF
  refine hp_getR (f := 0) d_MRunner_spawns_40 (by rw [(s_1).1]; exact q1) (by decide) rfl (by decide) (k9 183 rfl rfl) rfl e15 ?_
  obtain ⟨q16, hF⟩ := ck_s hG; clear hG
  rw [(s_1).1] at q16
  obtain ⟨a17, e18, hG⟩ := rf_s hF; clear hF
  refine hp_getRN (f := 3) d_MRunner_spawns_43 (by rw [(s_1).1]; exact q16) (by decide) rfl (by decide) (k8 163 rfl rfl) rfl e18 ?_
  refine ab_aload_n d_MRunner_spawns_46 rfl rfl rfl ?_
  refine hp_getI (f := 11) d_MRunner_spawns_47 (by rw [(s_1).1]; exact q1) (by decide) rfl (by decide) (k9 194 rfl rfl) rfl ?_
  refine ab_topi (fun x19 ex19 => ?_)
  replace hG := bnd_s ex19 hG
  obtain ⟨n20, q21, hF⟩ := ar_s hG; clear hG
  rw [(s_1).1] at q21
  obtain ⟨q22, hG⟩ := ck_s hF; clear hF
  refine hp_iald d_MRunner_spawns_50 tI (by rw [(s_1).1]; exact q21) q22 ?_
  refine ab_topi (fun x23 ex23 => ?_)
  replace hG := bnd_s ex23 hG
  refine ab_bipush (v := 40) d_MRunner_spawns_51 (by decide) ?_
  refine ab_icmp_ne (tgt := 60) d_MRunner_spawns_53 (by decide) (fun q24 => ?_) (fun q24 => ?_)
  · rw [if_neg q24] at hG
    refine ab_iconst (v := 0) d_MRunner_spawns_60 (by decide) ?_
    exact kB_MRunner_spawns_61 hG
  · rw [if_pos q24] at hG
    refine ab_iconst (v := 1) d_MRunner_spawns_56 (by decide) ?_
    refine ab_goto (tgt := 61) d_MRunner_spawns_57 (by decide) ?_
    exact kB_MRunner_spawns_61 hG
