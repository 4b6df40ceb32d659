def y_M_failure : ab_Y := (⟨"WorldEngineModel", "failure", "(I)I"⟩, prog_14_method_37_code, 2, (some FieldType.int), [])
theorem d_M_failure_0 : decode y_M_failure.2.1 0 = .ok (.aload_n 0, 1) := by decide +kernel
theorem d_M_failure_1 : decode y_M_failure.2.1 1 = .ok (.iconst 0, 1) := by decide +kernel
theorem d_M_failure_2 : decode y_M_failure.2.1 2 = .ok (.putfield 83, 3) := by decide +kernel
theorem d_M_failure_5 : decode y_M_failure.2.1 5 = .ok (.aload_n 0, 1) := by decide +kernel
theorem d_M_failure_6 : decode y_M_failure.2.1 6 = .ok (.getfield 37, 3) := by decide +kernel
theorem d_M_failure_9 : decode y_M_failure.2.1 9 = .ok (.getfield 154, 3) := by decide +kernel
theorem d_M_failure_12 : decode y_M_failure.2.1 12 = .ok (.ifCond .ge 5, 3) := by decide +kernel
theorem d_M_failure_15 : decode y_M_failure.2.1 15 = .ok (.iconst (-1), 1) := by decide +kernel
theorem d_M_failure_16 : decode y_M_failure.2.1 16 = .ok (.ireturn, 1) := by decide +kernel
theorem d_M_failure_17 : decode y_M_failure.2.1 17 = .ok (.iload_n 1, 1) := by decide +kernel
theorem d_M_failure_18 : decode y_M_failure.2.1 18 = .ok (.ifCond .ne 13, 3) := by decide +kernel
theorem d_M_failure_21 : decode y_M_failure.2.1 21 = .ok (.aload_n 0, 1) := by decide +kernel
theorem d_M_failure_22 : decode y_M_failure.2.1 22 = .ok (.getfield 37, 3) := by decide +kernel
theorem d_M_failure_25 : decode y_M_failure.2.1 25 = .ok (.getfield 154, 3) := by decide +kernel
theorem d_M_failure_28 : decode y_M_failure.2.1 28 = .ok (.goto 34, 3) := by decide +kernel
theorem d_M_failure_31 : decode y_M_failure.2.1 31 = .ok (.iload_n 1, 1) := by decide +kernel
theorem d_M_failure_32 : decode y_M_failure.2.1 32 = .ok (.iconst 1, 1) := by decide +kernel
theorem d_M_failure_33 : decode y_M_failure.2.1 33 = .ok (.if_icmp .ne 13, 3) := by decide +kernel
theorem d_M_failure_36 : decode y_M_failure.2.1 36 = .ok (.aload_n 0, 1) := by decide +kernel
theorem d_M_failure_37 : decode y_M_failure.2.1 37 = .ok (.getfield 37, 3) := by decide +kernel
theorem d_M_failure_40 : decode y_M_failure.2.1 40 = .ok (.getfield 304, 3) := by decide +kernel
theorem d_M_failure_43 : decode y_M_failure.2.1 43 = .ok (.goto 19, 3) := by decide +kernel
theorem d_M_failure_46 : decode y_M_failure.2.1 46 = .ok (.iload_n 1, 1) := by decide +kernel
theorem d_M_failure_47 : decode y_M_failure.2.1 47 = .ok (.iconst 2, 1) := by decide +kernel
theorem d_M_failure_48 : decode y_M_failure.2.1 48 = .ok (.if_icmp .ne 13, 3) := by decide +kernel
theorem d_M_failure_51 : decode y_M_failure.2.1 51 = .ok (.aload_n 0, 1) := by decide +kernel
theorem d_M_failure_52 : decode y_M_failure.2.1 52 = .ok (.getfield 37, 3) := by decide +kernel
theorem d_M_failure_55 : decode y_M_failure.2.1 55 = .ok (.getfield 307, 3) := by decide +kernel
theorem d_M_failure_58 : decode y_M_failure.2.1 58 = .ok (.goto 4, 3) := by decide +kernel
theorem d_M_failure_61 : decode y_M_failure.2.1 61 = .ok (.iconst (-1), 1) := by decide +kernel
theorem d_M_failure_62 : decode y_M_failure.2.1 62 = .ok (.ireturn, 1) := by decide +kernel
theorem s_M_failure : ab_Stat y_M_failure 1 := ⟨(k12 234 rfl rfl), (k1 19 rfl rfl), ⟨by decide, by decide⟩, by decide +kernel⟩
theorem i_M_failure : Cond.instanceMethod y_M_failure.1 ∈ ab_T := (k12 232 rfl rfl)
theorem v_M_failure : Cond.selects "WorldEngineModel" y_M_failure.1 y_M_failure.1 ∈ ab_T := (k12 233 rfl rfl)
def F_M_failure (N : Nat) (p0 : Nat) (p1 : Int32) (H : Hp) : Option (Int32 × Hp) :=
    ck (H.sh[p0]? = some (12, 0)) <|
    bnd (H.sD p0 0 (0 : Int32)) fun H2 =>
    rf (H2.P p0 9) fun a3 =>
    ck (H2.sh[a3]? = some (13, 0)) <|
    bnd ((H2.D a3 13)) fun x6 =>
    if (0 : Int32) ≤ x6 then
    if p1 = (0 : Int32) then
    rf (H2.P p0 9) fun a19 =>
    ck (H2.sh[a19]? = some (13, 0)) <|
    bnd ((H2.D a19 13)) fun x22 =>
    some (x22, H2)
    else
    if p1 = (1 : Int32) then
    rf (H2.P p0 9) fun a15 =>
    ck (H2.sh[a15]? = some (13, 0)) <|
    bnd ((H2.D a15 14)) fun x18 =>
    some (x18, H2)
    else
    if p1 = (2 : Int32) then
    rf (H2.P p0 9) fun a11 =>
    ck (H2.sh[a11]? = some (13, 0)) <|
    bnd ((H2.D a11 15)) fun x14 =>
    some (x14, H2)
    else
    some ((-1), H2)
    else
    some ((-1), H2)
set_option maxRecDepth 20000 in
set_option maxHeartbeats 2000000 in
theorem m_M_failure {N : Nat} {p0 : Nat} {p1 : Int32} {H : Hp} {r : Int32 × Hp} (hF : F_M_failure N p0 p1 H = some r) : Sa H r.2 := by
  unfold F_M_failure at hF
  have hm := Sa.rf H
  obtain ⟨q23, hG⟩ := ck_s hF; clear hF
  obtain ⟨H24, eH24, hF⟩ := bnd_g hG; clear hG
  replace hm : Sa H H24 := by rw [eH24]; exact hm
  obtain ⟨a25, e26, hG⟩ := rf_s hF; clear hF
  obtain ⟨q27, hF⟩ := ck_s hG; clear hG
  obtain ⟨x28, -, hG⟩ := bnd_g hF; clear hF
  rcases ite_s hG with ⟨q_3, hF⟩ | ⟨q_3, hF⟩
  · clear hG
    rcases ite_s hF with ⟨q_4, hG⟩ | ⟨q_4, hG⟩
    · clear hF
      obtain ⟨a31, e32, hF⟩ := rf_s hG; clear hG
      obtain ⟨q33, hG⟩ := ck_s hF; clear hF
      obtain ⟨x34, -, hF⟩ := bnd_g hG; clear hG
      have hr := Option.some.inj hF; subst hr
      exact hm
    · clear hF
      rcases ite_s hG with ⟨q_5, hF⟩ | ⟨q_5, hF⟩
      · clear hG
        obtain ⟨a36, e37, hG⟩ := rf_s hF; clear hF
        obtain ⟨q38, hF⟩ := ck_s hG; clear hG
        obtain ⟨x39, -, hG⟩ := bnd_g hF; clear hF
        have hr := Option.some.inj hG; subst hr
        exact hm
      · clear hG
        rcases ite_s hF with ⟨q_6, hG⟩ | ⟨q_6, hG⟩
        · clear hF
          obtain ⟨a41, e42, hF⟩ := rf_s hG; clear hG
          obtain ⟨q43, hG⟩ := ck_s hF; clear hF
          obtain ⟨x44, -, hF⟩ := bnd_g hG; clear hG
          have hr := Option.some.inj hF; subst hr
          exact hm
        · clear hF
          have hr := Option.some.inj hG; subst hr
          exact hm
  · clear hG
    have hr := Option.some.inj hF; subst hr
    exact hm
set_option maxRecDepth 20000 in
set_option maxHeartbeats 2000000 in
theorem k_M_failure {N : Nat} {p0 : Nat} {p1 : Int32} {H : Hp} {r : Int32 × Hp} (hF : F_M_failure N p0 p1 H = some r) : ab_M y_M_failure { frames := 0, cells := 0, slots := 0, locals := 0 } [.ref p0, .int p1] (hpw H) (po (.returned (some (.int r.1))) r.2) := by
  unfold F_M_failure at hF
  refine ab_of2 (lv := [some (.ref p0), some (.int p1)]) 0 rfl rfl (Nat.le_of_ble_eq_true rfl) ?_
  refine ab_aload_n d_M_failure_0 rfl rfl rfl ?_
  refine ab_iconst (v := 0) d_M_failure_1 (by decide) ?_
  obtain ⟨q1, hG⟩ := ck_s hF; clear hF
  refine hp_putI (v := 0) (f := 0) d_M_failure_2 q1 (by decide) rfl (by decide) (k9 233 rfl rfl) rfl rfl (fun _ => rfl) (fun _ => rfl) rfl ?_
  refine hp_gen (fun H2 eH2 => ?_)
  replace hG := bnd_s eH2 hG
  have s_1 : Sa H H2 := by rw [eH2]; exact Sa.rf _
  refine ab_aload_n d_M_failure_5 rfl rfl rfl ?_
  obtain ⟨a3, e4, hF⟩ := rf_s hG; clear hG
  refine hp_getR (f := 9) d_M_failure_6 (by rw [(s_1).1]; exact q1) (by decide) rfl (by decide) (k10 2 rfl rfl) rfl e4 ?_
  obtain ⟨q5, hG⟩ := ck_s hF; clear hF
  rw [(s_1).1] at q5
  refine hp_getIN (f := 13) d_M_failure_9 (by rw [(s_1).1]; exact q5) (by decide) rfl (by decide) (k9 128 rfl rfl) rfl ?_
  refine ab_topi (fun x6 ex6 => ?_)
  replace hG := bnd_s ex6 hG
  refine ab_if_ge (tgt := 17) d_M_failure_12 (by decide) (fun q7 => ?_) (fun q7 => ?_)
  · rw [if_pos q7] at hG
    refine ab_iload_n d_M_failure_17 rfl rfl ?_
    refine ab_if_ne (tgt := 31) d_M_failure_18 (by decide) (fun q8 => ?_) (fun q8 => ?_)
    · rw [if_neg q8] at hG
      refine ab_iload_n d_M_failure_31 rfl rfl ?_
      refine ab_iconst (v := 1) d_M_failure_32 (by decide) ?_
      refine ab_icmp_ne (tgt := 46) d_M_failure_33 (by decide) (fun q9 => ?_) (fun q9 => ?_)
      · rw [if_neg q9] at hG
        refine ab_iload_n d_M_failure_46 rfl rfl ?_
        refine ab_iconst (v := 2) d_M_failure_47 (by decide) ?_
        refine ab_icmp_ne (tgt := 61) d_M_failure_48 (by decide) (fun q10 => ?_) (fun q10 => ?_)
        · rw [if_neg q10] at hG
          refine ab_iconst (v := (-1)) d_M_failure_61 (by decide) ?_
          exact ab_iret d_M_failure_62 rfl (Nat.le_refl _) (Nat.le_refl _) (by have hr := Option.some.inj hG; subst hr; exact ⟨rfl, rfl⟩)
        · rw [if_pos q10] at hG
          refine ab_aload_n d_M_failure_51 rfl rfl rfl ?_
          obtain ⟨a11, e12, hF⟩ := rf_s hG; clear hG
          refine hp_getR (f := 9) d_M_failure_52 (by rw [(s_1).1]; exact q1) (by decide) rfl (by decide) (k10 2 rfl rfl) rfl e12 ?_
          obtain ⟨q13, hG⟩ := ck_s hF; clear hF
          rw [(s_1).1] at q13
          refine hp_getIN (f := 15) d_M_failure_55 (by rw [(s_1).1]; exact q13) (by decide) rfl (by decide) (k9 132 rfl rfl) rfl ?_
          refine ab_topi (fun x14 ex14 => ?_)
          replace hG := bnd_s ex14 hG
          refine ab_goto (tgt := 62) d_M_failure_58 (by decide) ?_
          exact ab_iret d_M_failure_62 rfl (Nat.le_refl _) (Nat.le_refl _) (by have hr := Option.some.inj hG; subst hr; exact ⟨rfl, rfl⟩)
      · rw [if_pos q9] at hG
        refine ab_aload_n d_M_failure_36 rfl rfl rfl ?_
        obtain ⟨a15, e16, hF⟩ := rf_s hG; clear hG
        refine hp_getR (f := 9) d_M_failure_37 (by rw [(s_1).1]; exact q1) (by decide) rfl (by decide) (k10 2 rfl rfl) rfl e16 ?_
        obtain ⟨q17, hG⟩ := ck_s hF; clear hF
        rw [(s_1).1] at q17
        refine hp_getIN (f := 14) d_M_failure_40 (by rw [(s_1).1]; exact q17) (by decide) rfl (by decide) (k9 130 rfl rfl) rfl ?_
        refine ab_topi (fun x18 ex18 => ?_)
        replace hG := bnd_s ex18 hG
        refine ab_goto (tgt := 62) d_M_failure_43 (by decide) ?_
        exact ab_iret d_M_failure_62 rfl (Nat.le_refl _) (Nat.le_refl _) (by have hr := Option.some.inj hG; subst hr; exact ⟨rfl, rfl⟩)
    · rw [if_pos q8] at hG
      refine ab_aload_n d_M_failure_21 rfl rfl rfl ?_
      obtain ⟨a19, e20, hF⟩ := rf_s hG; clear hG
      refine hp_getR (f := 9) d_M_failure_22 (by rw [(s_1).1]; exact q1) (by decide) rfl (by decide) (k10 2 rfl rfl) rfl e20 ?_
      obtain ⟨q21, hG⟩ := ck_s hF; clear hF
      rw [(s_1).1] at q21
      refine hp_getIN (f := 13) d_M_failure_25 (by rw [(s_1).1]; exact q21) (by decide) rfl (by decide) (k9 128 rfl rfl) rfl ?_
      refine ab_topi (fun x22 ex22 => ?_)
      replace hG := bnd_s ex22 hG
      refine ab_goto (tgt := 62) d_M_failure_28 (by decide) ?_
      exact ab_iret d_M_failure_62 rfl (Nat.le_refl _) (Nat.le_refl _) (by have hr := Option.some.inj hG; subst hr; exact ⟨rfl, rfl⟩)
  · rw [if_neg q7] at hG
    refine ab_iconst (v := (-1)) d_M_failure_15 (by decide) ?_
    exact ab_iret d_M_failure_16 rfl (Nat.le_refl _) (Nat.le_refl _) (by have hr := Option.some.inj hG; subst hr; exact ⟨rfl, rfl⟩)
def y_M_pending : ab_Y := (⟨"WorldEngineModel", "pending", "(II)I"⟩, prog_14_method_38_code, 3, (some FieldType.int), [])
theorem d_M_pending_0 : decode y_M_pending.2.1 0 = .ok (.aload_n 0, 1) := by decide +kernel
theorem d_M_pending_1 : decode y_M_pending.2.1 1 = .ok (.iconst 0, 1) := by decide +kernel
theorem d_M_pending_2 : decode y_M_pending.2.1 2 = .ok (.putfield 83, 3) := by decide +kernel
theorem d_M_pending_5 : decode y_M_pending.2.1 5 = .ok (.iload_n 1, 1) := by decide +kernel
theorem d_M_pending_6 : decode y_M_pending.2.1 6 = .ok (.i2l, 1) := by decide +kernel
theorem d_M_pending_7 : decode y_M_pending.2.1 7 = .ok (.lconst 0, 1) := by decide +kernel
theorem d_M_pending_8 : decode y_M_pending.2.1 8 = .ok (.aload_n 0, 1) := by decide +kernel
theorem d_M_pending_9 : decode y_M_pending.2.1 9 = .ok (.getfield 37, 3) := by decide +kernel
theorem d_M_pending_12 : decode y_M_pending.2.1 12 = .ok (.getfield 195, 3) := by decide +kernel
theorem d_M_pending_15 : decode y_M_pending.2.1 15 = .ok (.iconst 1, 1) := by decide +kernel
theorem d_M_pending_16 : decode y_M_pending.2.1 16 = .ok (.isub, 1) := by decide +kernel
theorem d_M_pending_17 : decode y_M_pending.2.1 17 = .ok (.i2l, 1) := by decide +kernel
theorem d_M_pending_18 : decode y_M_pending.2.1 18 = .ok (.invokestatic 99, 3) := by decide +kernel
theorem d_M_pending_21 : decode y_M_pending.2.1 21 = .ok (.ifCond .eq 7, 3) := by decide +kernel
theorem d_M_pending_24 : decode y_M_pending.2.1 24 = .ok (.iload_n 2, 1) := by decide +kernel
theorem d_M_pending_25 : decode y_M_pending.2.1 25 = .ok (.ifCond .ge 5, 3) := by decide +kernel
theorem d_M_pending_28 : decode y_M_pending.2.1 28 = .ok (.iconst (-1), 1) := by decide +kernel
theorem d_M_pending_29 : decode y_M_pending.2.1 29 = .ok (.ireturn, 1) := by decide +kernel
theorem d_M_pending_30 : decode y_M_pending.2.1 30 = .ok (.iload_n 2, 1) := by decide +kernel
theorem d_M_pending_31 : decode y_M_pending.2.1 31 = .ok (.iconst 3, 1) := by decide +kernel
theorem d_M_pending_32 : decode y_M_pending.2.1 32 = .ok (.if_icmp .ge 46, 3) := by decide +kernel
theorem d_M_pending_35 : decode y_M_pending.2.1 35 = .ok (.iload_n 2, 1) := by decide +kernel
theorem d_M_pending_36 : decode y_M_pending.2.1 36 = .ok (.ifCond .ne 15, 3) := by decide +kernel
theorem d_M_pending_39 : decode y_M_pending.2.1 39 = .ok (.aload_n 0, 1) := by decide +kernel
theorem d_M_pending_40 : decode y_M_pending.2.1 40 = .ok (.getfield 37, 3) := by decide +kernel
theorem d_M_pending_43 : decode y_M_pending.2.1 43 = .ok (.getfield 201, 3) := by decide +kernel
theorem d_M_pending_46 : decode y_M_pending.2.1 46 = .ok (.iload_n 1, 1) := by decide +kernel
theorem d_M_pending_47 : decode y_M_pending.2.1 47 = .ok (.iaload, 1) := by decide +kernel
theorem d_M_pending_48 : decode y_M_pending.2.1 48 = .ok (.goto 29, 3) := by decide +kernel
theorem d_M_pending_51 : decode y_M_pending.2.1 51 = .ok (.iload_n 2, 1) := by decide +kernel
theorem d_M_pending_52 : decode y_M_pending.2.1 52 = .ok (.iconst 1, 1) := by decide +kernel
theorem d_M_pending_53 : decode y_M_pending.2.1 53 = .ok (.if_icmp .ne 15, 3) := by decide +kernel
theorem d_M_pending_56 : decode y_M_pending.2.1 56 = .ok (.aload_n 0, 1) := by decide +kernel
theorem d_M_pending_57 : decode y_M_pending.2.1 57 = .ok (.getfield 37, 3) := by decide +kernel
theorem d_M_pending_60 : decode y_M_pending.2.1 60 = .ok (.getfield 208, 3) := by decide +kernel
theorem d_M_pending_63 : decode y_M_pending.2.1 63 = .ok (.iload_n 1, 1) := by decide +kernel
theorem d_M_pending_64 : decode y_M_pending.2.1 64 = .ok (.iaload, 1) := by decide +kernel
theorem d_M_pending_65 : decode y_M_pending.2.1 65 = .ok (.goto 12, 3) := by decide +kernel
theorem d_M_pending_68 : decode y_M_pending.2.1 68 = .ok (.aload_n 0, 1) := by decide +kernel
theorem d_M_pending_69 : decode y_M_pending.2.1 69 = .ok (.getfield 37, 3) := by decide +kernel
theorem d_M_pending_72 : decode y_M_pending.2.1 72 = .ok (.getfield 211, 3) := by decide +kernel
theorem d_M_pending_75 : decode y_M_pending.2.1 75 = .ok (.iload_n 1, 1) := by decide +kernel
theorem d_M_pending_76 : decode y_M_pending.2.1 76 = .ok (.iaload, 1) := by decide +kernel
theorem d_M_pending_77 : decode y_M_pending.2.1 77 = .ok (.ireturn, 1) := by decide +kernel
theorem d_M_pending_78 : decode y_M_pending.2.1 78 = .ok (.iload_n 2, 1) := by decide +kernel
theorem d_M_pending_79 : decode y_M_pending.2.1 79 = .ok (.iconst 3, 1) := by decide +kernel
theorem d_M_pending_80 : decode y_M_pending.2.1 80 = .ok (.isub, 1) := by decide +kernel
theorem d_M_pending_81 : decode y_M_pending.2.1 81 = .ok (.aload_n 0, 1) := by decide +kernel
theorem d_M_pending_82 : decode y_M_pending.2.1 82 = .ok (.getfield 16, 3) := by decide +kernel
theorem d_M_pending_85 : decode y_M_pending.2.1 85 = .ok (.getfield 310, 3) := by decide +kernel
theorem d_M_pending_88 : decode y_M_pending.2.1 88 = .ok (.aload_n 0, 1) := by decide +kernel
theorem d_M_pending_89 : decode y_M_pending.2.1 89 = .ok (.getfield 37, 3) := by decide +kernel
theorem d_M_pending_92 : decode y_M_pending.2.1 92 = .ok (.getfield 201, 3) := by decide +kernel
theorem d_M_pending_95 : decode y_M_pending.2.1 95 = .ok (.iload_n 1, 1) := by decide +kernel
theorem d_M_pending_96 : decode y_M_pending.2.1 96 = .ok (.iaload, 1) := by decide +kernel
theorem d_M_pending_97 : decode y_M_pending.2.1 97 = .ok (.iaload, 1) := by decide +kernel
theorem d_M_pending_98 : decode y_M_pending.2.1 98 = .ok (.if_icmp .ge 21, 3) := by decide +kernel
theorem d_M_pending_101 : decode y_M_pending.2.1 101 = .ok (.aload_n 0, 1) := by decide +kernel
theorem d_M_pending_102 : decode y_M_pending.2.1 102 = .ok (.getfield 37, 3) := by decide +kernel
theorem d_M_pending_105 : decode y_M_pending.2.1 105 = .ok (.getfield 214, 3) := by decide +kernel
theorem d_M_pending_108 : decode y_M_pending.2.1 108 = .ok (.iconst 4, 1) := by decide +kernel
theorem d_M_pending_109 : decode y_M_pending.2.1 109 = .ok (.iload_n 1, 1) := by decide +kernel
theorem d_M_pending_110 : decode y_M_pending.2.1 110 = .ok (.imul, 1) := by decide +kernel
theorem d_M_pending_111 : decode y_M_pending.2.1 111 = .ok (.iload_n 2, 1) := by decide +kernel
theorem d_M_pending_112 : decode y_M_pending.2.1 112 = .ok (.iadd, 1) := by decide +kernel
theorem d_M_pending_113 : decode y_M_pending.2.1 113 = .ok (.iconst 3, 1) := by decide +kernel
theorem d_M_pending_114 : decode y_M_pending.2.1 114 = .ok (.isub, 1) := by decide +kernel
theorem d_M_pending_115 : decode y_M_pending.2.1 115 = .ok (.iaload, 1) := by decide +kernel
theorem d_M_pending_116 : decode y_M_pending.2.1 116 = .ok (.goto 4, 3) := by decide +kernel
theorem d_M_pending_119 : decode y_M_pending.2.1 119 = .ok (.iconst (-1), 1) := by decide +kernel
theorem d_M_pending_120 : decode y_M_pending.2.1 120 = .ok (.ireturn, 1) := by decide +kernel
theorem s_M_pending : ab_Stat y_M_pending 2 := ⟨(k12 238 rfl rfl), (k1 19 rfl rfl), ⟨by decide, by decide⟩, by decide +kernel⟩
theorem i_M_pending : Cond.instanceMethod y_M_pending.1 ∈ ab_T := (k12 236 rfl rfl)
theorem v_M_pending : Cond.selects "WorldEngineModel" y_M_pending.1 y_M_pending.1 ∈ ab_T := (k12 237 rfl rfl)
def F_M_pending (N : Nat) (p0 : Nat) (p1 : Int32) (p2 : Int32) (H : Hp) : Option (Int32 × Hp) :=
    ck (H.sh[p0]? = some (12, 0)) <|
    bnd (H.sD p0 0 (0 : Int32)) fun H2 =>
    rf (H2.P p0 9) fun a3 =>
    ck (H2.sh[a3]? = some (13, 0)) <|
    bnd ((H2.D a3 8)) fun x6 =>
    bC (F_M_in N ((p1 : Int32).toInt64) (0 : Int64) (((x6 - (1 : Int32)) : Int32).toInt64) H2) fun v8 H9 =>
    if v8 = (0 : Int32) then
    some ((-1), H9)
    else
    if (0 : Int32) ≤ p2 then
    if (3 : Int32) ≤ p2 then
    rf (H9.P p0 3) fun a13 =>
    ck (H9.sh[a13]? = some (14, 0)) <|
    rf (H9.P a13 23) fun a16 =>
    rf (H9.P p0 9) fun a18 =>
    ck (H9.sh[a18]? = some (13, 0)) <|
    rf (H9.P a18 9) fun a21 =>
    ar H9 100 a21 fun n23 =>
    ck (inb p1 n23) <|
    bnd ((H9.D a21 (p1).toNatClampNeg)) fun x26 =>
    ar H9 100 a16 fun n27 =>
    ck (inb x26 n27) <|
    bnd ((H9.D a16 (x26).toNatClampNeg)) fun x30 =>
    if x30 ≤ (p2 - (3 : Int32)) then
    some ((-1), H9)
    else
    rf (H9.P p0 9) fun a32 =>
    ck (H9.sh[a32]? = some (13, 0)) <|
    rf (H9.P a32 12) fun a35 =>
    ar H9 100 a35 fun n37 =>
    ck (inb ((((4 : Int32) * p1) + p2) - (3 : Int32)) n37) <|
    bnd ((H9.D a35 (((((4 : Int32) * p1) + p2) - (3 : Int32))).toNatClampNeg)) fun x40 =>
    some (x40, H9)
    else
    if p2 = (0 : Int32) then
    rf (H9.P p0 9) fun a61 =>
    ck (H9.sh[a61]? = some (13, 0)) <|
    rf (H9.P a61 9) fun a64 =>
    ar H9 100 a64 fun n66 =>
    ck (inb p1 n66) <|
    bnd ((H9.D a64 (p1).toNatClampNeg)) fun x69 =>
    some (x69, H9)
    else
    if p2 = (1 : Int32) then
    rf (H9.P p0 9) fun a52 =>
    ck (H9.sh[a52]? = some (13, 0)) <|
    rf (H9.P a52 10) fun a55 =>
    ar H9 100 a55 fun n57 =>
    ck (inb p1 n57) <|
    bnd ((H9.D a55 (p1).toNatClampNeg)) fun x60 =>
    some (x60, H9)
    else
    rf (H9.P p0 9) fun a43 =>
    ck (H9.sh[a43]? = some (13, 0)) <|
    rf (H9.P a43 11) fun a46 =>
    ar H9 100 a46 fun n48 =>
    ck (inb p1 n48) <|
    bnd ((H9.D a46 (p1).toNatClampNeg)) fun x51 =>
    some (x51, H9)
    else
    some ((-1), H9)
set_option maxRecDepth 20000 in
set_option maxHeartbeats 2000000 in
theorem m_M_pending {N : Nat} {p0 : Nat} {p1 : Int32} {p2 : Int32} {H : Hp} {r : Int32 × Hp} (hF : F_M_pending N p0 p1 p2 H = some r) : Sa H r.2 := by
  unfold F_M_pending at hF
  have hm := Sa.rf H
  obtain ⟨q70, hG⟩ := ck_s hF; clear hF
  obtain ⟨H71, eH71, hF⟩ := bnd_g hG; clear hG
  replace hm : Sa H H71 := by rw [eH71]; exact hm
  obtain ⟨a72, e73, hG⟩ := rf_s hF; clear hF
  obtain ⟨q74, hF⟩ := ck_s hG; clear hG
  obtain ⟨x75, -, hG⟩ := bnd_g hF; clear hF
  obtain ⟨v77, H78, z76, hF⟩ := bC_s hG; clear hG
  replace hm : Sa H H78 := hm.tr (m_M_in z76)
  rcases ite_s hF with ⟨q_5, hG⟩ | ⟨q_5, hG⟩
  · clear hF
    have hr := Option.some.inj hG; subst hr
    exact hm
  · clear hF
    rcases ite_s hG with ⟨q_6, hF⟩ | ⟨q_6, hF⟩
    · clear hG
      rcases ite_s hF with ⟨q_7, hG⟩ | ⟨q_7, hG⟩
      · clear hF
        obtain ⟨a82, e83, hF⟩ := rf_s hG; clear hG
        obtain ⟨q84, hG⟩ := ck_s hF; clear hF
        obtain ⟨a85, e86, hF⟩ := rf_s hG; clear hG
        obtain ⟨a87, e88, hG⟩ := rf_s hF; clear hF
        obtain ⟨q89, hF⟩ := ck_s hG; clear hG
        obtain ⟨a90, e91, hG⟩ := rf_s hF; clear hF
        obtain ⟨n92, q93, hF⟩ := ar_s hG; clear hG
        obtain ⟨q94, hG⟩ := ck_s hF; clear hF
        obtain ⟨x95, -, hF⟩ := bnd_g hG; clear hG
        obtain ⟨n96, q97, hG⟩ := ar_s hF; clear hF
        obtain ⟨q98, hF⟩ := ck_s hG; clear hG
        obtain ⟨x99, -, hG⟩ := bnd_g hF; clear hF
        rcases ite_s hG with ⟨q_8, hF⟩ | ⟨q_8, hF⟩
        · clear hG
          have hr := Option.some.inj hF; subst hr
          exact hm
        · clear hG
          obtain ⟨a101, e102, hG⟩ := rf_s hF; clear hF
          obtain ⟨q103, hF⟩ := ck_s hG; clear hG
          obtain ⟨a104, e105, hG⟩ := rf_s hF; clear hF
          obtain ⟨n106, q107, hF⟩ := ar_s hG; clear hG
          obtain ⟨q108, hG⟩ := ck_s hF; clear hF
          obtain ⟨x109, -, hF⟩ := bnd_g hG; clear hG
          have hr := Option.some.inj hF; subst hr
          exact hm
      · clear hF
        rcases ite_s hG with ⟨q_9, hF⟩ | ⟨q_9, hF⟩
        · clear hG
          obtain ⟨a111, e112, hG⟩ := rf_s hF; clear hF
          obtain ⟨q113, hF⟩ := ck_s hG; clear hG
          obtain ⟨a114, e115, hG⟩ := rf_s hF; clear hF
          obtain ⟨n116, q117, hF⟩ := ar_s hG; clear hG
          obtain ⟨q118, hG⟩ := ck_s hF; clear hF
          obtain ⟨x119, -, hF⟩ := bnd_g hG; clear hG
          have hr := Option.some.inj hF; subst hr
          exact hm
        · clear hG
          rcases ite_s hF with ⟨q_10, hG⟩ | ⟨q_10, hG⟩
          · clear hF
            obtain ⟨a121, e122, hF⟩ := rf_s hG; clear hG
            obtain ⟨q123, hG⟩ := ck_s hF; clear hF
            obtain ⟨a124, e125, hF⟩ := rf_s hG; clear hG
            obtain ⟨n126, q127, hG⟩ := ar_s hF; clear hF
            obtain ⟨q128, hF⟩ := ck_s hG; clear hG
            obtain ⟨x129, -, hG⟩ := bnd_g hF; clear hF
            have hr := Option.some.inj hG; subst hr
            exact hm
          · clear hF
            obtain ⟨a130, e131, hF⟩ := rf_s hG; clear hG
            obtain ⟨q132, hG⟩ := ck_s hF; clear hF
            obtain ⟨a133, e134, hF⟩ := rf_s hG; clear hG
            obtain ⟨n135, q136, hG⟩ := ar_s hF; clear hF
            obtain ⟨q137, hF⟩ := ck_s hG; clear hG
            obtain ⟨x138, -, hG⟩ := bnd_g hF; clear hF
            have hr := Option.some.inj hG; subst hr
            exact hm
    · clear hG
      have hr := Option.some.inj hF; subst hr
      exact hm
set_option maxRecDepth 20000 in
set_option maxHeartbeats 2000000 in
theorem k_M_pending {N : Nat} {p0 : Nat} {p1 : Int32} {p2 : Int32} {H : Hp} {r : Int32 × Hp} (hF : F_M_pending N p0 p1 p2 H = some r) : ab_M y_M_pending { frames := 1, cells := 0, slots := 0, locals := 25 } [.ref p0, .int p1, .int p2] (hpw H) (po (.returned (some (.int r.1))) r.2) := by
  unfold F_M_pending at hF
  refine ab_of2 (lv := [some (.ref p0), some (.int p1), some (.int p2)]) 0 rfl rfl (Nat.le_of_ble_eq_true rfl) ?_
  refine ab_aload_n d_M_pending_0 rfl rfl rfl ?_
  refine ab_iconst (v := 0) d_M_pending_1 (by decide) ?_
  obtain ⟨q1, hG⟩ := ck_s hF; clear hF
  refine hp_putI (v := 0) (f := 0) d_M_pending_2 q1 (by decide) rfl (by decide) (k9 233 rfl rfl) rfl rfl (fun _ => rfl) (fun _ => rfl) rfl ?_
  refine hp_gen (fun H2 eH2 => ?_)
  replace hG := bnd_s eH2 hG
  have s_1 : Sa H H2 := by rw [eH2]; exact Sa.rf _
  refine ab_iload_n d_M_pending_5 rfl rfl ?_
  refine ab_i2l d_M_pending_6 ?_
  refine ab_lconst (v := 0) d_M_pending_7 (by decide) ?_
  refine ab_aload_n d_M_pending_8 rfl rfl rfl ?_
  obtain ⟨a3, e4, hF⟩ := rf_s hG; clear hG
  refine hp_getR (f := 9) d_M_pending_9 (by rw [(s_1).1]; exact q1) (by decide) rfl (by decide) (k10 2 rfl rfl) rfl e4 ?_
  obtain ⟨q5, hG⟩ := ck_s hF; clear hF
  rw [(s_1).1] at q5
  refine hp_getIN (f := 8) d_M_pending_12 (by rw [(s_1).1]; exact q5) (by decide) rfl (by decide) (k9 112 rfl rfl) rfl ?_
  refine ab_topi (fun x6 ex6 => ?_)
  replace hG := bnd_s ex6 hG
  refine ab_iconst (v := 1) d_M_pending_15 (by decide) ?_
  refine ab_isub d_M_pending_16 ?_
  refine ab_i2l d_M_pending_17 ?_
  obtain ⟨v8, H9, z7, hF⟩ := bC_s hG; clear hG
  refine hp_callS_a (v := .int v8) (H1 := H9) (As := [.long ((p1 : Int32).toInt64), .long 0, .long (((x6 - (1 : Int32)) : Int32).toInt64)]) (rest := []) d_M_pending_18 (k_M_in z7) (ab_mkC s_M_in (Nat.le_of_ble_eq_true rfl) (Nat.le_of_ble_eq_true rfl) (Nat.le_refl 0) (Nat.le_refl 0)) (k10 93 rfl rfl) t_M_in rfl (Nat.le_of_ble_eq_true rfl) ?_
  have s_2 : Sa H H9 := (s_1).tr (m_M_in z7)
  refine ab_if_eq (tgt := 28) d_M_pending_21 (by decide) (fun q10 => ?_) (fun q10 => ?_)
  · rw [if_pos q10] at hF
    refine ab_iconst (v := (-1)) d_M_pending_28 (by decide) ?_
    exact ab_iret d_M_pending_29 rfl (Nat.le_refl _) (Nat.le_refl _) (by have hr := Option.some.inj hF; subst hr; exact ⟨rfl, rfl⟩)
  · rw [if_neg q10] at hF
    refine ab_iload_n d_M_pending_24 rfl rfl ?_
    refine ab_if_ge (tgt := 30) d_M_pending_25 (by decide) (fun q11 => ?_) (fun q11 => ?_)
    · rw [if_pos q11] at hF
      refine ab_iload_n d_M_pending_30 rfl rfl ?_
      refine ab_iconst (v := 3) d_M_pending_31 (by decide) ?_
      refine ab_icmp_ge (tgt := 78) d_M_pending_32 (by decide) (fun q12 => ?_) (fun q12 => ?_)
      · rw [if_pos q12] at hF
        refine ab_iload_n d_M_pending_78 rfl rfl ?_
        refine ab_iconst (v := 3) d_M_pending_79 (by decide) ?_
        refine ab_isub d_M_pending_80 ?_
        refine ab_aload_n d_M_pending_81 rfl rfl rfl ?_
        obtain ⟨a13, e14, hG⟩ := rf_s hF; clear hF
        refine hp_getR (f := 3) d_M_pending_82 (by rw [(s_2).1]; exact q1) (by decide) rfl (by decide) (k9 236 rfl rfl) rfl e14 ?_
        obtain ⟨q15, hF⟩ := ck_s hG; clear hG
        rw [(s_2).1] at q15
        obtain ⟨a16, e17, hG⟩ := rf_s hF; clear hF
        refine hp_getRN (f := 23) d_M_pending_85 (by rw [(s_2).1]; exact q15) (by decide) rfl (by decide) (k8 200 rfl rfl) rfl e17 ?_
        refine ab_aload_n d_M_pending_88 rfl rfl rfl ?_
        obtain ⟨a18, e19, hF⟩ := rf_s hG; clear hG
        refine hp_getR (f := 9) d_M_pending_89 (by rw [(s_2).1]; exact q1) (by decide) rfl (by decide) (k10 2 rfl rfl) rfl e19 ?_
        obtain ⟨q20, hG⟩ := ck_s hF; clear hF
        rw [(s_2).1] at q20
        obtain ⟨a21, e22, hF⟩ := rf_s hG; clear hG
        refine hp_getRN (f := 9) d_M_pending_92 (by rw [(s_2).1]; exact q20) (by decide) rfl (by decide) (k9 115 rfl rfl) rfl e22 ?_
        refine ab_iload_n d_M_pending_95 rfl rfl ?_
        obtain ⟨n23, q24, hG⟩ := ar_s hF; clear hF
        rw [(s_2).1] at q24
        obtain ⟨q25, hF⟩ := ck_s hG; clear hG
        refine hp_iald d_M_pending_96 tI (by rw [(s_2).1]; exact q24) q25 ?_
        refine ab_topi (fun x26 ex26 => ?_)
        replace hF := bnd_s ex26 hF
        obtain ⟨n27, q28, hG⟩ := ar_s hF; clear hF
        rw [(s_2).1] at q28
        obtain ⟨q29, hF⟩ := ck_s hG; clear hG
        refine hp_iald d_M_pending_97 tI (by rw [(s_2).1]; exact q28) q29 ?_
        refine ab_topi (fun x30 ex30 => ?_)
        replace hF := bnd_s ex30 hF
        refine ab_icmp_ge (tgt := 119) d_M_pending_98 (by decide) (fun q31 => ?_) (fun q31 => ?_)
        · rw [if_pos q31] at hF
          refine ab_iconst (v := (-1)) d_M_pending_119 (by decide) ?_
          exact ab_iret d_M_pending_120 rfl (Nat.le_refl _) (Nat.le_refl _) (by have hr := Option.some.inj hF; subst hr; exact ⟨rfl, rfl⟩)
        · rw [if_neg q31] at hF
          refine ab_aload_n d_M_pending_101 rfl rfl rfl ?_
          obtain ⟨a32, e33, hG⟩ := rf_s hF; clear hF
          refine hp_getR (f := 9) d_M_pending_102 (by rw [(s_2).1]; exact q1) (by decide) rfl (by decide) (k10 2 rfl rfl) rfl e33 ?_
          obtain ⟨q34, hF⟩ := ck_s hG; clear hG
          rw [(s_2).1] at q34
          obtain ⟨a35, e36, hG⟩ := rf_s hF; clear hF
          refine hp_getRN (f := 12) d_M_pending_105 (by rw [(s_2).1]; exact q34) (by decide) rfl (by decide) (k9 124 rfl rfl) rfl e36 ?_
          refine ab_iconst (v := 4) d_M_pending_108 (by decide) ?_
          refine ab_iload_n d_M_pending_109 rfl rfl ?_
          refine ab_imul d_M_pending_110 ?_
          refine ab_iload_n d_M_pending_111 rfl rfl ?_
          refine ab_iadd d_M_pending_112 ?_
          refine ab_iconst (v := 3) d_M_pending_113 (by decide) ?_
          refine ab_isub d_M_pending_114 ?_
          obtain ⟨n37, q38, hF⟩ := ar_s hG; clear hG
          rw [(s_2).1] at q38
          obtain ⟨q39, hG⟩ := ck_s hF; clear hF
          refine hp_iald d_M_pending_115 tI (by rw [(s_2).1]; exact q38) q39 ?_
          refine ab_topi (fun x40 ex40 => ?_)
          replace hG := bnd_s ex40 hG
          refine ab_goto (tgt := 120) d_M_pending_116 (by decide) ?_
          exact ab_iret d_M_pending_120 rfl (Nat.le_refl _) (Nat.le_refl _) (by have hr := Option.some.inj hG; subst hr; exact ⟨rfl, rfl⟩)
      · rw [if_neg q12] at hF
        refine ab_iload_n d_M_pending_35 rfl rfl ?_
        refine ab_if_ne (tgt := 51) d_M_pending_36 (by decide) (fun q41 => ?_) (fun q41 => ?_)
        · rw [if_neg q41] at hF
          refine ab_iload_n d_M_pending_51 rfl rfl ?_
          refine ab_iconst (v := 1) d_M_pending_52 (by decide) ?_
          refine ab_icmp_ne (tgt := 68) d_M_pending_53 (by decide) (fun q42 => ?_) (fun q42 => ?_)
          · rw [if_neg q42] at hF
            refine ab_aload_n d_M_pending_68 rfl rfl rfl ?_
            obtain ⟨a43, e44, hG⟩ := rf_s hF; clear hF
            refine hp_getR (f := 9) d_M_pending_69 (by rw [(s_2).1]; exact q1) (by decide) rfl (by decide) (k10 2 rfl rfl) rfl e44 ?_
            obtain ⟨q45, hF⟩ := ck_s hG; clear hG
            rw [(s_2).1] at q45
            obtain ⟨a46, e47, hG⟩ := rf_s hF; clear hF
            refine hp_getRN (f := 11) d_M_pending_72 (by rw [(s_2).1]; exact q45) (by decide) rfl (by decide) (k9 121 rfl rfl) rfl e47 ?_
            refine ab_iload_n d_M_pending_75 rfl rfl ?_
            obtain ⟨n48, q49, hF⟩ := ar_s hG; clear hG
            rw [(s_2).1] at q49
            obtain ⟨q50, hG⟩ := ck_s hF; clear hF
            refine hp_iald d_M_pending_76 tI (by rw [(s_2).1]; exact q49) q50 ?_
            refine ab_topi (fun x51 ex51 => ?_)
            replace hG := bnd_s ex51 hG
            exact ab_iret d_M_pending_77 rfl (Nat.le_refl _) (Nat.le_refl _) (by have hr := Option.some.inj hG; subst hr; exact ⟨rfl, rfl⟩)
          · rw [if_pos q42] at hF
            refine ab_aload_n d_M_pending_56 rfl rfl rfl ?_
            obtain ⟨a52, e53, hG⟩ := rf_s hF; clear hF
            refine hp_getR (f := 9) d_M_pending_57 (by rw [(s_2).1]; exact q1) (by decide) rfl (by decide) (k10 2 rfl rfl) rfl e53 ?_
            obtain ⟨q54, hF⟩ := ck_s hG; clear hG
            rw [(s_2).1] at q54
            obtain ⟨a55, e56, hG⟩ := rf_s hF; clear hF
            refine hp_getRN (f := 10) d_M_pending_60 (by rw [(s_2).1]; exact q54) (by decide) rfl (by decide) (k9 118 rfl rfl) rfl e56 ?_
            refine ab_iload_n d_M_pending_63 rfl rfl ?_
            obtain ⟨n57, q58, hF⟩ := ar_s hG; clear hG
            rw [(s_2).1] at q58
            obtain ⟨q59, hG⟩ := ck_s hF; clear hF
            refine hp_iald d_M_pending_64 tI (by rw [(s_2).1]; exact q58) q59 ?_
            refine ab_topi (fun x60 ex60 => ?_)
            replace hG := bnd_s ex60 hG
            refine ab_goto (tgt := 77) d_M_pending_65 (by decide) ?_
            exact ab_iret d_M_pending_77 rfl (Nat.le_refl _) (Nat.le_refl _) (by have hr := Option.some.inj hG; subst hr; exact ⟨rfl, rfl⟩)
        · rw [if_pos q41] at hF
          refine ab_aload_n d_M_pending_39 rfl rfl rfl ?_
          obtain ⟨a61, e62, hG⟩ := rf_s hF; clear hF
          refine hp_getR (f := 9) d_M_pending_40 (by rw [(s_2).1]; exact q1) (by decide) rfl (by decide) (k10 2 rfl rfl) rfl e62 ?_
          obtain ⟨q63, hF⟩ := ck_s hG; clear hG
          rw [(s_2).1] at q63
          obtain ⟨a64, e65, hG⟩ := rf_s hF; clear hF
          refine hp_getRN (f := 9) d_M_pending_43 (by rw [(s_2).1]; exact q63) (by decide) rfl (by decide) (k9 115 rfl rfl) rfl e65 ?_
          refine ab_iload_n d_M_pending_46 rfl rfl ?_
          obtain ⟨n66, q67, hF⟩ := ar_s hG; clear hG
          rw [(s_2).1] at q67
          obtain ⟨q68, hG⟩ := ck_s hF; clear hF
          refine hp_iald d_M_pending_47 tI (by rw [(s_2).1]; exact q67) q68 ?_
          refine ab_topi (fun x69 ex69 => ?_)
          replace hG := bnd_s ex69 hG
          refine ab_goto (tgt := 77) d_M_pending_48 (by decide) ?_
          exact ab_iret d_M_pending_77 rfl (Nat.le_refl _) (Nat.le_refl _) (by have hr := Option.some.inj hG; subst hr; exact ⟨rfl, rfl⟩)
    · rw [if_neg q11] at hF
      refine ab_iconst (v := (-1)) d_M_pending_28 (by decide) ?_
      exact ab_iret d_M_pending_29 rfl (Nat.le_refl _) (Nat.le_refl _) (by have hr := Option.some.inj hF; subst hr; exact ⟨rfl, rfl⟩)
def y_MWorld_entities : ab_Y := (⟨"WorldEngineModel$World", "entities", "()I"⟩, prog_17_method_8_code, 3, (some FieldType.int), [])
theorem d_MWorld_entities_0 : decode y_MWorld_entities.2.1 0 = .ok (.iconst 0, 1) := by decide +kernel
theorem d_MWorld_entities_1 : decode y_MWorld_entities.2.1 1 = .ok (.istore_n 1, 1) := by decide +kernel
theorem d_MWorld_entities_2 : decode y_MWorld_entities.2.1 2 = .ok (.iconst 0, 1) := by decide +kernel
theorem d_MWorld_entities_3 : decode y_MWorld_entities.2.1 3 = .ok (.istore_n 2, 1) := by decide +kernel
theorem d_MWorld_entities_4 : decode y_MWorld_entities.2.1 4 = .ok (.iload_n 2, 1) := by decide +kernel
theorem d_MWorld_entities_5 : decode y_MWorld_entities.2.1 5 = .ok (.sipush 256, 3) := by decide +kernel
theorem d_MWorld_entities_8 : decode y_MWorld_entities.2.1 8 = .ok (.if_icmp .ge 26, 3) := by decide +kernel
theorem d_MWorld_entities_11 : decode y_MWorld_entities.2.1 11 = .ok (.iload_n 1, 1) := by decide +kernel
theorem d_MWorld_entities_12 : decode y_MWorld_entities.2.1 12 = .ok (.aload_n 0, 1) := by decide +kernel
theorem d_MWorld_entities_13 : decode y_MWorld_entities.2.1 13 = .ok (.getfield 15, 3) := by decide +kernel
theorem d_MWorld_entities_16 : decode y_MWorld_entities.2.1 16 = .ok (.iload_n 2, 1) := by decide +kernel
theorem d_MWorld_entities_17 : decode y_MWorld_entities.2.1 17 = .ok (.baload, 1) := by decide +kernel
theorem d_MWorld_entities_18 : decode y_MWorld_entities.2.1 18 = .ok (.ifCond .eq 7, 3) := by decide +kernel
theorem d_MWorld_entities_21 : decode y_MWorld_entities.2.1 21 = .ok (.iconst 1, 1) := by decide +kernel
theorem d_MWorld_entities_22 : decode y_MWorld_entities.2.1 22 = .ok (.goto 4, 3) := by decide +kernel
theorem d_MWorld_entities_25 : decode y_MWorld_entities.2.1 25 = .ok (.iconst 0, 1) := by decide +kernel
theorem d_MWorld_entities_26 : decode y_MWorld_entities.2.1 26 = .ok (.iadd, 1) := by decide +kernel
theorem d_MWorld_entities_27 : decode y_MWorld_entities.2.1 27 = .ok (.istore_n 1, 1) := by decide +kernel
theorem d_MWorld_entities_28 : decode y_MWorld_entities.2.1 28 = .ok (.iinc 2 1, 3) := by decide +kernel
theorem d_MWorld_entities_31 : decode y_MWorld_entities.2.1 31 = .ok (.goto (-27), 3) := by decide +kernel
theorem d_MWorld_entities_34 : decode y_MWorld_entities.2.1 34 = .ok (.iload_n 1, 1) := by decide +kernel
theorem d_MWorld_entities_35 : decode y_MWorld_entities.2.1 35 = .ok (.ireturn, 1) := by decide +kernel
theorem s_MWorld_entities : ab_Stat y_MWorld_entities 0 := ⟨(k13 6 rfl rfl), (k1 21 rfl rfl), ⟨by decide, by decide⟩, by decide +kernel⟩
theorem i_MWorld_entities : Cond.instanceMethod y_MWorld_entities.1 ∈ ab_T := (k13 4 rfl rfl)
theorem v_MWorld_entities : Cond.selects "WorldEngineModel$World" y_MWorld_entities.1 y_MWorld_entities.1 ∈ ab_T := (k13 5 rfl rfl)
def B_MWorld_entities_26 (N : Nat) (p0 : Nat) (kq4 : Int32 → Int32 → Hp → Option (Int32 × Hp)) (l2 : Int32) (w0 : Int32) (w1 : Int32) (H : Hp) : Option (Int32 × Hp) :=
    kq4 (w0 + w1) (l2 + 1) H
set_option maxRecDepth 20000 in
set_option maxHeartbeats 2000000 in
theorem mB_MWorld_entities_26 {N : Nat} {p0 : Nat} {kq4 : Int32 → Int32 → Hp → Option (Int32 × Hp)} (hm4 : ∀ (l1 : Int32) (l2 : Int32) (H : Hp) (r : Int32 × Hp), kq4 l1 l2 H = some r → Sa H r.2) {l2 : Int32} {w0 : Int32} {w1 : Int32} {H : Hp} {r : Int32 × Hp} (hF : B_MWorld_entities_26 N p0 kq4 l2 w0 w1 H = some r) : Sa H r.2 := by
  unfold B_MWorld_entities_26 at hF
  have hm := Sa.rf H
  exact hm.tr (hm4 (w0 + w1) (l2 + 1) H r hF)
set_option maxRecDepth 20000 in
set_option maxHeartbeats 2000000 in
theorem kB_MWorld_entities_26 {N : Nat} {p0 : Nat} {kq4 : Int32 → Int32 → Hp → Option (Int32 × Hp)} (hm4 : ∀ (l1 : Int32) (l2 : Int32) (H : Hp) (r : Int32 × Hp), kq4 l1 l2 H = some r → Sa H r.2) (hk4 : ∀ (l1 : Int32) (l2 : Int32) (H : Hp) (r : Int32 × Hp), kq4 l1 l2 H = some r → ab_V y_MWorld_entities { frames := 0, cells := 0, slots := 0, locals := 0 } (po (.returned (some (.int r.1))) r.2) 0 0 0 0 4 [some (.ref p0), some (.int l1), some (.int l2)] [] (hpw H)) {l2 : Int32} {w0 : Int32} {w1 : Int32} {H : Hp} {r : Int32 × Hp} (hF : B_MWorld_entities_26 N p0 kq4 l2 w0 w1 H = some r) : ab_V y_MWorld_entities { frames := 0, cells := 0, slots := 0, locals := 0 } (po (.returned (some (.int r.1))) r.2) 0 0 0 0 26 [some (.ref p0), none, some (.int l2)] [.int w1, .int w0] (hpw H) := by
  unfold B_MWorld_entities_26 at hF
  refine ab_iadd d_MWorld_entities_26 ?_
  refine ab_istore_n (lv' := [some (.ref p0), some (.int (w0 + w1)), some (.int l2)]) d_MWorld_entities_27 rfl (by decide) rfl ?_
  refine ab_iinc (v := l2 + 1) (lv' := [some (.ref p0), some (.int (w0 + w1)), some (.int (l2 + 1))]) d_MWorld_entities_28 rfl rfl (by decide) rfl ?_
  refine ab_goto (tgt := 4) d_MWorld_entities_31 (by decide) ?_
  exact hk4 (w0 + w1) (l2 + 1) H r hF
def B_MWorld_entities_4 (N : Nat) (p0 : Nat) : Nat → Int32 → Int32 → Hp → Option (Int32 × Hp)
  | 0, _, _, _ => none
  | n + 1, l1, l2, H =>
    if (256 : Int32) ≤ l2 then
    some (l1, H)
    else
    ck (H.sh[p0]? = some (13, 0)) <|
    rf (H.P p0 5) fun a3 =>
    ar H 102 a3 fun n5 =>
    ck (inb l2 n5) <|
    bnd ((H.D a3 (l2).toNatClampNeg)) fun x8 =>
    if x8 = (0 : Int32) then
    B_MWorld_entities_26 N p0 (fun l1 l2 H => B_MWorld_entities_4 N p0 n l1 l2 H) l2 l1 0 H
    else
    B_MWorld_entities_26 N p0 (fun l1 l2 H => B_MWorld_entities_4 N p0 n l1 l2 H) l2 l1 1 H
termination_by structural n => n
set_option maxRecDepth 20000 in
set_option maxHeartbeats 2000000 in
theorem mB_MWorld_entities_4 {N : Nat} {p0 : Nat} : ∀ (n : Nat) (l1 : Int32) (l2 : Int32) (H : Hp) (r : Int32 × Hp), B_MWorld_entities_4 N p0 n l1 l2 H = some r → Sa H r.2 := by
  intro n
  induction n with
  | zero => intro l1 l2 H r hF; rw [B_MWorld_entities_4] at hF; cases hF
  | succ n ih =>
    intro l1 l2 H r hF
    rw [B_MWorld_entities_4] at hF
    have hm := Sa.rf H
    rcases ite_s hF with ⟨q_1, hG⟩ | ⟨q_1, hG⟩
    · clear hF
      have hr := Option.some.inj hG; subst hr
      exact hm
    · clear hF
      obtain ⟨q11, hF⟩ := ck_s hG; clear hG
      obtain ⟨a12, e13, hG⟩ := rf_s hF; clear hF
      obtain ⟨n14, q15, hF⟩ := ar_s hG; clear hG
      obtain ⟨q16, hG⟩ := ck_s hF; clear hF
      obtain ⟨x17, -, hF⟩ := bnd_g hG; clear hG
      rcases ite_s hF with ⟨q_2, hG⟩ | ⟨q_2, hG⟩
      · clear hF
        exact hm.tr (mB_MWorld_entities_26 ih hG)
      · clear hF
        exact hm.tr (mB_MWorld_entities_26 ih hG)
set_option maxRecDepth 20000 in
set_option maxHeartbeats 2000000 in
theorem kB_MWorld_entities_4 {N : Nat} {p0 : Nat} : ∀ (n : Nat) (l1 : Int32) (l2 : Int32) (H : Hp) (r : Int32 × Hp), B_MWorld_entities_4 N p0 n l1 l2 H = some r → ab_V y_MWorld_entities { frames := 0, cells := 0, slots := 0, locals := 0 } (po (.returned (some (.int r.1))) r.2) 0 0 0 0 4 [some (.ref p0), some (.int l1), some (.int l2)] [] (hpw H) := by
  intro n
  induction n with
  | zero => intro l1 l2 H r hF; rw [B_MWorld_entities_4] at hF; cases hF
  | succ n ih =>
    intro l1 l2 H r hF
    rw [B_MWorld_entities_4] at hF
    refine ab_iload_n d_MWorld_entities_4 rfl rfl ?_
    refine ab_sipush (v := 256) d_MWorld_entities_5 (by decide) ?_
    refine ab_icmp_ge (tgt := 34) d_MWorld_entities_8 (by decide) (fun q1 => ?_) (fun q1 => ?_)
    · rw [if_pos q1] at hF
      refine ab_iload_n d_MWorld_entities_34 rfl rfl ?_
      exact ab_iret d_MWorld_entities_35 rfl (Nat.le_refl _) (Nat.le_refl _) (by have hr := Option.some.inj hF; subst hr; exact ⟨rfl, rfl⟩)
    · rw [if_neg q1] at hF
      refine ab_iload_n d_MWorld_entities_11 rfl rfl ?_
      refine ab_aload_n d_MWorld_entities_12 rfl rfl rfl ?_
      obtain ⟨q2, hG⟩ := ck_s hF; clear hF
      obtain ⟨a3, e4, hF⟩ := rf_s hG; clear hG
      refine hp_getR (f := 5) d_MWorld_entities_13 q2 (by decide) rfl (by decide) (k9 100 rfl rfl) rfl e4 ?_
      refine ab_iload_n d_MWorld_entities_16 rfl rfl ?_
      obtain ⟨n5, q6, hG⟩ := ar_s hF; clear hF
      obtain ⟨q7, hF⟩ := ck_s hG; clear hG
      refine hp_zald d_MWorld_entities_17 tZ q6 q7 ?_
      refine ab_topi (fun x8 ex8 => ?_)
      replace hF := bnd_s ex8 hF
      refine ab_if_eq (tgt := 25) d_MWorld_entities_18 (by decide) (fun q9 => ?_) (fun q9 => ?_)
      · rw [if_pos q9] at hF
        refine ab_iconst (v := 0) d_MWorld_entities_25 (by decide) ?_
        refine ab_le (lv' := [some (.ref p0), none, some (.int l2)]) ⟨rfl, ⟨rfl, trivial⟩⟩ ?_
        exact kB_MWorld_entities_26 (mB_MWorld_entities_4 n) ih hF
      · rw [if_neg q9] at hF
        refine ab_iconst (v := 1) d_MWorld_entities_21 (by decide) ?_
        refine ab_goto (tgt := 26) d_MWorld_entities_22 (by decide) ?_
        refine ab_le (lv' := [some (.ref p0), none, some (.int l2)]) ⟨rfl, ⟨rfl, trivial⟩⟩ ?_
        exact kB_MWorld_entities_26 (mB_MWorld_entities_4 n) ih hF
def F_MWorld_entities (N : Nat) (p0 : Nat) (H : Hp) : Option (Int32 × Hp) :=
    B_MWorld_entities_4 N p0 N 0 0 H
set_option maxRecDepth 20000 in
set_option maxHeartbeats 2000000 in
theorem m_MWorld_entities {N : Nat} {p0 : Nat} {H : Hp} {r : Int32 × Hp} (hF : F_MWorld_entities N p0 H = some r) : Sa H r.2 := by
  unfold F_MWorld_entities at hF
  have hm := Sa.rf H
  exact hm.tr (mB_MWorld_entities_4 N 0 0 H r hF)
set_option maxRecDepth 20000 in
set_option maxHeartbeats 2000000 in
theorem k_MWorld_entities {N : Nat} {p0 : Nat} {H : Hp} {r : Int32 × Hp} (hF : F_MWorld_entities N p0 H = some r) : ab_M y_MWorld_entities { frames := 0, cells := 0, slots := 0, locals := 0 } [.ref p0] (hpw H) (po (.returned (some (.int r.1))) r.2) := by
  unfold F_MWorld_entities at hF
  refine ab_of2 (lv := [some (.ref p0), none, none]) 2 rfl rfl (Nat.le_of_ble_eq_true rfl) ?_
  refine ab_iconst (v := 0) d_MWorld_entities_0 (by decide) ?_
  refine ab_istore_n (lv' := [some (.ref p0), some (.int 0), none]) d_MWorld_entities_1 rfl (by decide) rfl ?_
  refine ab_iconst (v := 0) d_MWorld_entities_2 (by decide) ?_
  refine ab_istore_n (lv' := [some (.ref p0), some (.int 0), some (.int 0)]) d_MWorld_entities_3 rfl (by decide) rfl ?_
  exact kB_MWorld_entities_4 N 0 0 H r hF
def y_MText_groups : ab_Y := (⟨"WorldEngineModel$Text", "groups", "()I"⟩, prog_16_method_16_code, 1, (some FieldType.int), [])
theorem d_MText_groups_0 : decode y_MText_groups.2.1 0 = .ok (.aload_n 0, 1) := by decide +kernel
theorem d_MText_groups_1 : decode y_MText_groups.2.1 1 = .ok (.getfield 182, 3) := by decide +kernel
theorem d_MText_groups_4 : decode y_MText_groups.2.1 4 = .ok (.ifCond .ne 7, 3) := by decide +kernel
theorem d_MText_groups_7 : decode y_MText_groups.2.1 7 = .ok (.iconst 0, 1) := by decide +kernel
theorem d_MText_groups_8 : decode y_MText_groups.2.1 8 = .ok (.goto 16, 3) := by decide +kernel
theorem d_MText_groups_11 : decode y_MText_groups.2.1 11 = .ok (.aload_n 0, 1) := by decide +kernel
theorem d_MText_groups_12 : decode y_MText_groups.2.1 12 = .ok (.getfield 92, 3) := by decide +kernel
theorem d_MText_groups_15 : decode y_MText_groups.2.1 15 = .ok (.aload_n 0, 1) := by decide +kernel
theorem d_MText_groups_16 : decode y_MText_groups.2.1 16 = .ok (.getfield 182, 3) := by decide +kernel
theorem d_MText_groups_19 : decode y_MText_groups.2.1 19 = .ok (.iconst 1, 1) := by decide +kernel
theorem d_MText_groups_20 : decode y_MText_groups.2.1 20 = .ok (.isub, 1) := by decide +kernel
theorem d_MText_groups_21 : decode y_MText_groups.2.1 21 = .ok (.iaload, 1) := by decide +kernel
theorem d_MText_groups_22 : decode y_MText_groups.2.1 22 = .ok (.iconst 1, 1) := by decide +kernel
theorem d_MText_groups_23 : decode y_MText_groups.2.1 23 = .ok (.iadd, 1) := by decide +kernel
theorem d_MText_groups_24 : decode y_MText_groups.2.1 24 = .ok (.ireturn, 1) := by decide +kernel
theorem s_MText_groups : ab_Stat y_MText_groups 0 := ⟨(k13 10 rfl rfl), (k1 20 rfl rfl), ⟨by decide, by decide⟩, by decide +kernel⟩
theorem i_MText_groups : Cond.instanceMethod y_MText_groups.1 ∈ ab_T := (k13 8 rfl rfl)
theorem v_MText_groups : Cond.selects "WorldEngineModel$Text" y_MText_groups.1 y_MText_groups.1 ∈ ab_T := (k13 9 rfl rfl)
def F_MText_groups (N : Nat) (p0 : Nat) (H : Hp) : Option (Int32 × Hp) :=
    ck (H.sh[p0]? = some (14, 0)) <|
    bnd ((H.D p0 29)) fun x2 =>
    if x2 = (0 : Int32) then
    some (0, H)
    else
    rf (H.P p0 36) fun a4 =>
    bnd ((H.D p0 29)) fun x6 =>
    ar H 100 a4 fun n7 =>
    ck (inb (x6 - (1 : Int32)) n7) <|
    bnd ((H.D a4 ((x6 - (1 : Int32))).toNatClampNeg)) fun x10 =>
    some (x10 + (1 : Int32), H)
set_option maxRecDepth 20000 in
set_option maxHeartbeats 2000000 in
theorem m_MText_groups {N : Nat} {p0 : Nat} {H : Hp} {r : Int32 × Hp} (hF : F_MText_groups N p0 H = some r) : Sa H r.2 := by
  unfold F_MText_groups at hF
  have hm := Sa.rf H
  obtain ⟨q11, hG⟩ := ck_s hF; clear hF
  obtain ⟨x12, -, hF⟩ := bnd_g hG; clear hG
  rcases ite_s hF with ⟨q_1, hG⟩ | ⟨q_1, hG⟩
  · clear hF
    have hr := Option.some.inj hG; subst hr
    exact hm
  · clear hF
    obtain ⟨a14, e15, hF⟩ := rf_s hG; clear hG
    obtain ⟨x16, -, hG⟩ := bnd_g hF; clear hF
    obtain ⟨n17, q18, hF⟩ := ar_s hG; clear hG
    obtain ⟨q19, hG⟩ := ck_s hF; clear hF
    obtain ⟨x20, -, hF⟩ := bnd_g hG; clear hG
    have hr := Option.some.inj hF; subst hr
    exact hm
set_option maxRecDepth 20000 in
set_option maxHeartbeats 2000000 in
theorem k_MText_groups {N : Nat} {p0 : Nat} {H : Hp} {r : Int32 × Hp} (hF : F_MText_groups N p0 H = some r) : ab_M y_MText_groups { frames := 0, cells := 0, slots := 0, locals := 0 } [.ref p0] (hpw H) (po (.returned (some (.int r.1))) r.2) := by
  unfold F_MText_groups at hF
  refine ab_of2 (lv := [some (.ref p0)]) 0 rfl rfl (Nat.le_of_ble_eq_true rfl) ?_
  refine ab_aload_n d_MText_groups_0 rfl rfl rfl ?_
  obtain ⟨q1, hG⟩ := ck_s hF; clear hF
  refine hp_getI (f := 29) d_MText_groups_1 q1 (by decide) rfl (by decide) (k8 213 rfl rfl) rfl ?_
  refine ab_topi (fun x2 ex2 => ?_)
  replace hG := bnd_s ex2 hG
  refine ab_if_ne (tgt := 11) d_MText_groups_4 (by decide) (fun q3 => ?_) (fun q3 => ?_)
  · rw [if_neg q3] at hG
    refine ab_aload_n d_MText_groups_11 rfl rfl rfl ?_
    obtain ⟨a4, e5, hF⟩ := rf_s hG; clear hG
    refine hp_getR (f := 36) d_MText_groups_12 q1 (by decide) rfl (by decide) (k8 221 rfl rfl) rfl e5 ?_
    refine ab_aload_n d_MText_groups_15 rfl rfl rfl ?_
    refine hp_getI (f := 29) d_MText_groups_16 q1 (by decide) rfl (by decide) (k8 213 rfl rfl) rfl ?_
    refine ab_topi (fun x6 ex6 => ?_)
    replace hF := bnd_s ex6 hF
    refine ab_iconst (v := 1) d_MText_groups_19 (by decide) ?_
    refine ab_isub d_MText_groups_20 ?_
    obtain ⟨n7, q8, hG⟩ := ar_s hF; clear hF
    obtain ⟨q9, hF⟩ := ck_s hG; clear hG
    refine hp_iald d_MText_groups_21 tI q8 q9 ?_
    refine ab_topi (fun x10 ex10 => ?_)
    replace hF := bnd_s ex10 hF
    refine ab_iconst (v := 1) d_MText_groups_22 (by decide) ?_
    refine ab_iadd d_MText_groups_23 ?_
    exact ab_iret d_MText_groups_24 rfl (Nat.le_refl _) (Nat.le_refl _) (by have hr := Option.some.inj hF; subst hr; exact ⟨rfl, rfl⟩)
  · rw [if_pos q3] at hG
    refine ab_iconst (v := 0) d_MText_groups_7 (by decide) ?_
    refine ab_goto (tgt := 24) d_MText_groups_8 (by decide) ?_
    exact ab_iret d_MText_groups_24 rfl (Nat.le_refl _) (Nat.le_refl _) (by have hr := Option.some.inj hG; subst hr; exact ⟨rfl, rfl⟩)
def y_M_look : ab_Y := (⟨"WorldEngineModel", "look", "(I)I"⟩, prog_14_method_39_code, 2, (some FieldType.int), [])
theorem d_M_look_0 : decode y_M_look.2.1 0 = .ok (.aload_n 0, 1) := by decide +kernel
theorem d_M_look_1 : decode y_M_look.2.1 1 = .ok (.iconst 0, 1) := by decide +kernel
theorem d_M_look_2 : decode y_M_look.2.1 2 = .ok (.putfield 83, 3) := by decide +kernel
theorem d_M_look_5 : decode y_M_look.2.1 5 = .ok (.iload_n 1, 1) := by decide +kernel
theorem d_M_look_6 : decode y_M_look.2.1 6 = .ok (.tableswitch 177 0 14 #[74, 82, 90, 98, 106, 114, 122, 130, 138, 143, 148, 156, 162, 167, 172], 74) := by decide +kernel
theorem d_M_look_80 : decode y_M_look.2.1 80 = .ok (.aload_n 0, 1) := by decide +kernel
theorem d_M_look_81 : decode y_M_look.2.1 81 = .ok (.getfield 16, 3) := by decide +kernel
theorem d_M_look_84 : decode y_M_look.2.1 84 = .ok (.getfield 142, 3) := by decide +kernel
theorem d_M_look_87 : decode y_M_look.2.1 87 = .ok (.ireturn, 1) := by decide +kernel
theorem d_M_look_88 : decode y_M_look.2.1 88 = .ok (.aload_n 0, 1) := by decide +kernel
theorem d_M_look_89 : decode y_M_look.2.1 89 = .ok (.getfield 16, 3) := by decide +kernel
theorem d_M_look_92 : decode y_M_look.2.1 92 = .ok (.getfield 161, 3) := by decide +kernel
theorem d_M_look_95 : decode y_M_look.2.1 95 = .ok (.ireturn, 1) := by decide +kernel
theorem d_M_look_96 : decode y_M_look.2.1 96 = .ok (.aload_n 0, 1) := by decide +kernel
theorem d_M_look_97 : decode y_M_look.2.1 97 = .ok (.getfield 37, 3) := by decide +kernel
theorem d_M_look_100 : decode y_M_look.2.1 100 = .ok (.getfield 145, 3) := by decide +kernel
theorem d_M_look_103 : decode y_M_look.2.1 103 = .ok (.ireturn, 1) := by decide +kernel
theorem d_M_look_104 : decode y_M_look.2.1 104 = .ok (.aload_n 0, 1) := by decide +kernel
theorem d_M_look_105 : decode y_M_look.2.1 105 = .ok (.getfield 33, 3) := by decide +kernel
theorem d_M_look_108 : decode y_M_look.2.1 108 = .ok (.getfield 145, 3) := by decide +kernel
theorem d_M_look_111 : decode y_M_look.2.1 111 = .ok (.ireturn, 1) := by decide +kernel
theorem d_M_look_112 : decode y_M_look.2.1 112 = .ok (.aload_n 0, 1) := by decide +kernel
theorem d_M_look_113 : decode y_M_look.2.1 113 = .ok (.getfield 37, 3) := by decide +kernel
theorem d_M_look_116 : decode y_M_look.2.1 116 = .ok (.invokevirtual 313, 3) := by decide +kernel
theorem d_M_look_119 : decode y_M_look.2.1 119 = .ok (.ireturn, 1) := by decide +kernel
theorem d_M_look_120 : decode y_M_look.2.1 120 = .ok (.aload_n 0, 1) := by decide +kernel
theorem d_M_look_121 : decode y_M_look.2.1 121 = .ok (.getfield 37, 3) := by decide +kernel
theorem d_M_look_124 : decode y_M_look.2.1 124 = .ok (.getfield 195, 3) := by decide +kernel
theorem d_M_look_127 : decode y_M_look.2.1 127 = .ok (.ireturn, 1) := by decide +kernel
theorem d_M_look_128 : decode y_M_look.2.1 128 = .ok (.aload_n 0, 1) := by decide +kernel
theorem d_M_look_129 : decode y_M_look.2.1 129 = .ok (.getfield 37, 3) := by decide +kernel
theorem d_M_look_132 : decode y_M_look.2.1 132 = .ok (.getfield 317, 3) := by decide +kernel
theorem d_M_look_135 : decode y_M_look.2.1 135 = .ok (.ireturn, 1) := by decide +kernel
theorem d_M_look_136 : decode y_M_look.2.1 136 = .ok (.aload_n 0, 1) := by decide +kernel
theorem d_M_look_137 : decode y_M_look.2.1 137 = .ok (.getfield 37, 3) := by decide +kernel
theorem d_M_look_140 : decode y_M_look.2.1 140 = .ok (.getfield 320, 3) := by decide +kernel
theorem d_M_look_143 : decode y_M_look.2.1 143 = .ok (.ireturn, 1) := by decide +kernel
theorem d_M_look_144 : decode y_M_look.2.1 144 = .ok (.aload_n 0, 1) := by decide +kernel
theorem d_M_look_145 : decode y_M_look.2.1 145 = .ok (.getfield 136, 3) := by decide +kernel
theorem d_M_look_148 : decode y_M_look.2.1 148 = .ok (.ireturn, 1) := by decide +kernel
theorem d_M_look_149 : decode y_M_look.2.1 149 = .ok (.aload_n 0, 1) := by decide +kernel
theorem d_M_look_150 : decode y_M_look.2.1 150 = .ok (.getfield 323, 3) := by decide +kernel
theorem d_M_look_153 : decode y_M_look.2.1 153 = .ok (.ireturn, 1) := by decide +kernel
theorem d_M_look_154 : decode y_M_look.2.1 154 = .ok (.aload_n 0, 1) := by decide +kernel
theorem d_M_look_155 : decode y_M_look.2.1 155 = .ok (.getfield 16, 3) := by decide +kernel
theorem d_M_look_158 : decode y_M_look.2.1 158 = .ok (.invokevirtual 326, 3) := by decide +kernel
theorem d_M_look_161 : decode y_M_look.2.1 161 = .ok (.ireturn, 1) := by decide +kernel
theorem d_M_look_162 : decode y_M_look.2.1 162 = .ok (.aload_n 0, 1) := by decide +kernel
theorem d_M_look_163 : decode y_M_look.2.1 163 = .ok (.iconst 1, 1) := by decide +kernel
theorem d_M_look_164 : decode y_M_look.2.1 164 = .ok (.invokevirtual 247, 3) := by decide +kernel
theorem d_M_look_167 : decode y_M_look.2.1 167 = .ok (.ireturn, 1) := by decide +kernel
theorem d_M_look_168 : decode y_M_look.2.1 168 = .ok (.aload_n 0, 1) := by decide +kernel
theorem d_M_look_169 : decode y_M_look.2.1 169 = .ok (.getfield 139, 3) := by decide +kernel
theorem d_M_look_172 : decode y_M_look.2.1 172 = .ok (.ireturn, 1) := by decide +kernel
theorem d_M_look_173 : decode y_M_look.2.1 173 = .ok (.aload_n 0, 1) := by decide +kernel
theorem d_M_look_174 : decode y_M_look.2.1 174 = .ok (.getfield 96, 3) := by decide +kernel
theorem d_M_look_177 : decode y_M_look.2.1 177 = .ok (.ireturn, 1) := by decide +kernel
theorem d_M_look_178 : decode y_M_look.2.1 178 = .ok (.aload_n 0, 1) := by decide +kernel
theorem d_M_look_179 : decode y_M_look.2.1 179 = .ok (.getfield 50, 3) := by decide +kernel
theorem d_M_look_182 : decode y_M_look.2.1 182 = .ok (.ireturn, 1) := by decide +kernel
theorem d_M_look_183 : decode y_M_look.2.1 183 = .ok (.iconst (-1), 1) := by decide +kernel
theorem d_M_look_184 : decode y_M_look.2.1 184 = .ok (.ireturn, 1) := by decide +kernel
theorem s_M_look : ab_Stat y_M_look 1 := ⟨(k13 2 rfl rfl), (k1 19 rfl rfl), ⟨by decide, by decide⟩, by decide +kernel⟩
theorem i_M_look : Cond.instanceMethod y_M_look.1 ∈ ab_T := (k13 0 rfl rfl)
theorem v_M_look : Cond.selects "WorldEngineModel" y_M_look.1 y_M_look.1 ∈ ab_T := (k13 1 rfl rfl)
def F_M_look (N : Nat) (p0 : Nat) (p1 : Int32) (H : Hp) : Option (Int32 × Hp) :=
    ck (H.sh[p0]? = some (12, 0)) <|
    bnd (H.sD p0 0 (0 : Int32)) fun H2 =>
    if p1 = 0 then
    rf (H2.P p0 3) fun a4 =>
    ck (H2.sh[a4]? = some (14, 0)) <|
    bnd ((H2.D a4 29)) fun x7 =>
    some (x7, H2)
    else if p1 = 1 then
    rf (H2.P p0 3) fun a9 =>
    ck (H2.sh[a9]? = some (14, 0)) <|
    bnd ((H2.D a9 16)) fun x12 =>
    some (x12, H2)
    else if p1 = 2 then
    rf (H2.P p0 9) fun a14 =>
    ck (H2.sh[a14]? = some (13, 0)) <|
    bnd ((H2.D a14 0)) fun x17 =>
    some (x17, H2)
    else if p1 = 3 then
    rf (H2.P p0 8) fun a19 =>
    ck (H2.sh[a19]? = some (13, 0)) <|
    bnd ((H2.D a19 0)) fun x22 =>
    some (x22, H2)
    else if p1 = 4 then
    rf (H2.P p0 9) fun a24 =>
    ck (H2.sh[a24]? = some (13, 0)) <|
    bC (F_MWorld_entities N a24 H2) fun v28 H29 =>
    some (v28, H29)
    else if p1 = 5 then
    rf (H2.P p0 9) fun a31 =>
    ck (H2.sh[a31]? = some (13, 0)) <|
    bnd ((H2.D a31 8)) fun x34 =>
    some (x34, H2)
    else if p1 = 6 then
    rf (H2.P p0 9) fun a36 =>
    ck (H2.sh[a36]? = some (13, 0)) <|
    bnd ((H2.D a36 2)) fun x39 =>
    some (x39, H2)
    else if p1 = 7 then
    rf (H2.P p0 9) fun a41 =>
    ck (H2.sh[a41]? = some (13, 0)) <|
    bnd ((H2.D a41 3)) fun x44 =>
    some (x44, H2)
    else if p1 = 8 then
    bnd ((H2.D p0 20)) fun x46 =>
    some (x46, H2)
    else if p1 = 9 then
    bnd ((H2.D p0 22)) fun x48 =>
    some (x48, H2)
    else if p1 = 10 then
    rf (H2.P p0 3) fun a50 =>
    ck (H2.sh[a50]? = some (14, 0)) <|
    bC (F_MText_groups N a50 H2) fun v54 H55 =>
    some (v54, H55)
    else if p1 = 11 then
    bC (F_M_workers N p0 (1 : Int32) H2) fun v58 H59 =>
    some (v58, H59)
    else if p1 = 12 then
    bnd ((H2.D p0 13)) fun x61 =>
    some (x61, H2)
    else if p1 = 13 then
    bnd ((H2.D p0 2)) fun x63 =>
    some (x63, H2)
    else if p1 = 14 then
    bnd ((H2.D p0 12)) fun x65 =>
    some (x65, H2)
    else some ((-1), H2)
set_option maxRecDepth 20000 in
set_option maxHeartbeats 2000000 in
theorem m_M_look {N : Nat} {p0 : Nat} {p1 : Int32} {H : Hp} {r : Int32 × Hp} (hF : F_M_look N p0 p1 H = some r) : Sa H r.2 := by
  unfold F_M_look at hF
  have hm := Sa.rf H
  obtain ⟨q66, hG⟩ := ck_s hF; clear hF
  obtain ⟨H67, eH67, hF⟩ := bnd_g hG; clear hG
  replace hm : Sa H H67 := by rw [eH67]; exact hm
  rcases ite_s hF with ⟨q_6, hG⟩ | ⟨q_6, hG⟩
  · clear hF
    obtain ⟨a69, e70, hF⟩ := rf_s hG; clear hG
    obtain ⟨q71, hG⟩ := ck_s hF; clear hF
    obtain ⟨x72, -, hF⟩ := bnd_g hG; clear hG
    have hr := Option.some.inj hF; subst hr
    exact hm
  clear hF
  rcases ite_s hG with ⟨q_7, hF⟩ | ⟨q_7, hF⟩
  · clear hG
    obtain ⟨a74, e75, hG⟩ := rf_s hF; clear hF
    obtain ⟨q76, hF⟩ := ck_s hG; clear hG
    obtain ⟨x77, -, hG⟩ := bnd_g hF; clear hF
    have hr := Option.some.inj hG; subst hr
    exact hm
  clear hG
  rcases ite_s hF with ⟨q_8, hG⟩ | ⟨q_8, hG⟩
  · clear hF
    obtain ⟨a79, e80, hF⟩ := rf_s hG; clear hG
    obtain ⟨q81, hG⟩ := ck_s hF; clear hF
    obtain ⟨x82, -, hF⟩ := bnd_g hG; clear hG
    have hr := Option.some.inj hF; subst hr
    exact hm
  clear hF
  rcases ite_s hG with ⟨q_9, hF⟩ | ⟨q_9, hF⟩
  · clear hG
    obtain ⟨a84, e85, hG⟩ := rf_s hF; clear hF
    obtain ⟨q86, hF⟩ := ck_s hG; clear hG
    obtain ⟨x87, -, hG⟩ := bnd_g hF; clear hF
    have hr := Option.some.inj hG; subst hr
    exact hm
  clear hG
  rcases ite_s hF with ⟨q_10, hG⟩ | ⟨q_10, hG⟩
  · clear hF
    obtain ⟨a89, e90, hF⟩ := rf_s hG; clear hG
    obtain ⟨q91, hG⟩ := ck_s hF; clear hF
    obtain ⟨v93, H94, z92, hF⟩ := bC_s hG; clear hG
    replace hm : Sa H H94 := hm.tr (m_MWorld_entities z92)
    have hr := Option.some.inj hF; subst hr
    exact hm
  clear hF
  rcases ite_s hG with ⟨q_12, hF⟩ | ⟨q_12, hF⟩
  · clear hG
    obtain ⟨a96, e97, hG⟩ := rf_s hF; clear hF
    obtain ⟨q98, hF⟩ := ck_s hG; clear hG
    obtain ⟨x99, -, hG⟩ := bnd_g hF; clear hF
    have hr := Option.some.inj hG; subst hr
    exact hm
  clear hG
  rcases ite_s hF with ⟨q_13, hG⟩ | ⟨q_13, hG⟩
  · clear hF
    obtain ⟨a101, e102, hF⟩ := rf_s hG; clear hG
    obtain ⟨q103, hG⟩ := ck_s hF; clear hF
    obtain ⟨x104, -, hF⟩ := bnd_g hG; clear hG
    have hr := Option.some.inj hF; subst hr
    exact hm
  clear hF
  rcases ite_s hG with ⟨q_14, hF⟩ | ⟨q_14, hF⟩
  · clear hG
    obtain ⟨a106, e107, hG⟩ := rf_s hF; clear hF
    obtain ⟨q108, hF⟩ := ck_s hG; clear hG
    obtain ⟨x109, -, hG⟩ := bnd_g hF; clear hF
    have hr := Option.some.inj hG; subst hr
    exact hm
  clear hG
  rcases ite_s hF with ⟨q_15, hG⟩ | ⟨q_15, hG⟩
  · clear hF
    obtain ⟨x111, -, hF⟩ := bnd_g hG; clear hG
    have hr := Option.some.inj hF; subst hr
    exact hm
  clear hF
  rcases ite_s hG with ⟨q_16, hF⟩ | ⟨q_16, hF⟩
  · clear hG
    obtain ⟨x113, -, hG⟩ := bnd_g hF; clear hF
    have hr := Option.some.inj hG; subst hr
    exact hm
  clear hG
  rcases ite_s hF with ⟨q_17, hG⟩ | ⟨q_17, hG⟩
  · clear hF
    obtain ⟨a115, e116, hF⟩ := rf_s hG; clear hG
    obtain ⟨q117, hG⟩ := ck_s hF; clear hF
    obtain ⟨v119, H120, z118, hF⟩ := bC_s hG; clear hG
    replace hm : Sa H H120 := hm.tr (m_MText_groups z118)
    have hr := Option.some.inj hF; subst hr
    exact hm
  clear hF
  rcases ite_s hG with ⟨q_19, hF⟩ | ⟨q_19, hF⟩
  · clear hG
    obtain ⟨v123, H124, z122, hG⟩ := bC_s hF; clear hF
    replace hm : Sa H H124 := hm.tr (m_M_workers z122)
    have hr := Option.some.inj hG; subst hr
    exact hm
  clear hG
  rcases ite_s hF with ⟨q_21, hG⟩ | ⟨q_21, hG⟩
  · clear hF
    obtain ⟨x126, -, hF⟩ := bnd_g hG; clear hG
    have hr := Option.some.inj hF; subst hr
    exact hm
  clear hF
  rcases ite_s hG with ⟨q_22, hF⟩ | ⟨q_22, hF⟩
  · clear hG
    obtain ⟨x128, -, hG⟩ := bnd_g hF; clear hF
    have hr := Option.some.inj hG; subst hr
    exact hm
  clear hG
  rcases ite_s hF with ⟨q_23, hG⟩ | ⟨q_23, hG⟩
  · clear hF
    obtain ⟨x130, -, hF⟩ := bnd_g hG; clear hG
    have hr := Option.some.inj hF; subst hr
    exact hm
  clear hF
  have hr := Option.some.inj hG; subst hr
  exact hm
set_option maxRecDepth 20000 in
set_option maxHeartbeats 2000000 in
theorem k_M_look {N : Nat} {p0 : Nat} {p1 : Int32} {H : Hp} {r : Int32 × Hp} (hF : F_M_look N p0 p1 H = some r) : ab_M y_M_look { frames := 1, cells := 0, slots := 0, locals := 23 } [.ref p0, .int p1] (hpw H) (po (.returned (some (.int r.1))) r.2) := by
  unfold F_M_look at hF
  refine ab_of2 (lv := [some (.ref p0), some (.int p1)]) 0 rfl rfl (Nat.le_of_ble_eq_true rfl) ?_
  refine ab_aload_n d_M_look_0 rfl rfl rfl ?_
  refine ab_iconst (v := 0) d_M_look_1 (by decide) ?_
  obtain ⟨q1, hG⟩ := ck_s hF; clear hF
  refine hp_putI (v := 0) (f := 0) d_M_look_2 q1 (by decide) rfl (by decide) (k9 233 rfl rfl) rfl rfl (fun _ => rfl) (fun _ => rfl) rfl ?_
  refine hp_gen (fun H2 eH2 => ?_)
  replace hG := bnd_s eH2 hG
  have s_1 : Sa H H2 := by rw [eH2]; exact Sa.rf _
  refine ab_iload_n d_M_look_5 rfl rfl ?_
  by_cases t3 : p1 = 0
  · rw [if_pos t3] at hG
    refine ab_tableIn (off := 74) (tgt := 80) d_M_look_6 (by rw [t3]; decide) (by rw [t3]; decide) (by rw [t3]; decide) (by decide) ?_
    refine ab_aload_n d_M_look_80 rfl rfl rfl ?_
    obtain ⟨a4, e5, hF⟩ := rf_s hG; clear hG
    refine hp_getR (f := 3) d_M_look_81 (by rw [(s_1).1]; exact q1) (by decide) rfl (by decide) (k9 236 rfl rfl) rfl e5 ?_
    obtain ⟨q6, hG⟩ := ck_s hF; clear hF
    rw [(s_1).1] at q6
    refine hp_getIN (f := 29) d_M_look_84 (by rw [(s_1).1]; exact q6) (by decide) rfl (by decide) (k8 212 rfl rfl) rfl ?_
    refine ab_topi (fun x7 ex7 => ?_)
    replace hG := bnd_s ex7 hG
    exact ab_iret d_M_look_87 rfl (Nat.le_refl _) (Nat.le_refl _) (by have hr := Option.some.inj hG; subst hr; exact ⟨rfl, rfl⟩)
  rw [if_neg t3] at hG
  have ut3 : ¬ (0 : Int) = (p1).toInt := fun z => t3 (Int32.toInt_inj.mp (z.symm.trans (by decide)))
  by_cases t8 : p1 = 1
  · rw [if_pos t8] at hG
    refine ab_tableIn (off := 82) (tgt := 88) d_M_look_6 (by rw [t8]; decide) (by rw [t8]; decide) (by rw [t8]; decide) (by decide) ?_
    refine ab_aload_n d_M_look_88 rfl rfl rfl ?_
    obtain ⟨a9, e10, hF⟩ := rf_s hG; clear hG
    refine hp_getR (f := 3) d_M_look_89 (by rw [(s_1).1]; exact q1) (by decide) rfl (by decide) (k9 236 rfl rfl) rfl e10 ?_
    obtain ⟨q11, hG⟩ := ck_s hF; clear hF
    rw [(s_1).1] at q11
    refine hp_getIN (f := 16) d_M_look_92 (by rw [(s_1).1]; exact q11) (by decide) rfl (by decide) (k8 180 rfl rfl) rfl ?_
    refine ab_topi (fun x12 ex12 => ?_)
    replace hG := bnd_s ex12 hG
    exact ab_iret d_M_look_95 rfl (Nat.le_refl _) (Nat.le_refl _) (by have hr := Option.some.inj hG; subst hr; exact ⟨rfl, rfl⟩)
  rw [if_neg t8] at hG
  have ut8 : ¬ (1 : Int) = (p1).toInt := fun z => t8 (Int32.toInt_inj.mp (z.symm.trans (by decide)))
  by_cases t13 : p1 = 2
  · rw [if_pos t13] at hG
    refine ab_tableIn (off := 90) (tgt := 96) d_M_look_6 (by rw [t13]; decide) (by rw [t13]; decide) (by rw [t13]; decide) (by decide) ?_
    refine ab_aload_n d_M_look_96 rfl rfl rfl ?_
    obtain ⟨a14, e15, hF⟩ := rf_s hG; clear hG
    refine hp_getR (f := 9) d_M_look_97 (by rw [(s_1).1]; exact q1) (by decide) rfl (by decide) (k10 2 rfl rfl) rfl e15 ?_
    obtain ⟨q16, hG⟩ := ck_s hF; clear hF
    rw [(s_1).1] at q16
    refine hp_getIN (f := 0) d_M_look_100 (by rw [(s_1).1]; exact q16) (by decide) rfl (by decide) (k9 89 rfl rfl) rfl ?_
    refine ab_topi (fun x17 ex17 => ?_)
    replace hG := bnd_s ex17 hG
    exact ab_iret d_M_look_103 rfl (Nat.le_refl _) (Nat.le_refl _) (by have hr := Option.some.inj hG; subst hr; exact ⟨rfl, rfl⟩)
  rw [if_neg t13] at hG
  have ut13 : ¬ (2 : Int) = (p1).toInt := fun z => t13 (Int32.toInt_inj.mp (z.symm.trans (by decide)))
  by_cases t18 : p1 = 3
  · rw [if_pos t18] at hG
    refine ab_tableIn (off := 98) (tgt := 104) d_M_look_6 (by rw [t18]; decide) (by rw [t18]; decide) (by rw [t18]; decide) (by decide) ?_
    refine ab_aload_n d_M_look_104 rfl rfl rfl ?_
    obtain ⟨a19, e20, hF⟩ := rf_s hG; clear hG
    refine hp_getR (f := 8) d_M_look_105 (by rw [(s_1).1]; exact q1) (by decide) rfl (by decide) (k10 1 rfl rfl) rfl e20 ?_
    obtain ⟨q21, hG⟩ := ck_s hF; clear hF
    rw [(s_1).1] at q21
    refine hp_getIN (f := 0) d_M_look_108 (by rw [(s_1).1]; exact q21) (by decide) rfl (by decide) (k9 89 rfl rfl) rfl ?_
    refine ab_topi (fun x22 ex22 => ?_)
    replace hG := bnd_s ex22 hG
    exact ab_iret d_M_look_111 rfl (Nat.le_refl _) (Nat.le_refl _) (by have hr := Option.some.inj hG; subst hr; exact ⟨rfl, rfl⟩)
  rw [if_neg t18] at hG
  have ut18 : ¬ (3 : Int) = (p1).toInt := fun z => t18 (Int32.toInt_inj.mp (z.symm.trans (by decide)))
  by_cases t23 : p1 = 4
  · rw [if_pos t23] at hG
    refine ab_tableIn (off := 106) (tgt := 112) d_M_look_6 (by rw [t23]; decide) (by rw [t23]; decide) (by rw [t23]; decide) (by decide) ?_
    refine ab_aload_n d_M_look_112 rfl rfl rfl ?_
    obtain ⟨a24, e25, hF⟩ := rf_s hG; clear hG
    refine hp_getR (f := 9) d_M_look_113 (by rw [(s_1).1]; exact q1) (by decide) rfl (by decide) (k10 2 rfl rfl) rfl e25 ?_
    obtain ⟨q26, hG⟩ := ck_s hF; clear hF
    rw [(s_1).1] at q26
    obtain ⟨v28, H29, z27, hF⟩ := bC_s hG; clear hG
    refine hp_callV_a (v := .int v28) (H1 := H29) (As := []) (rest := []) d_M_look_116 (k_MWorld_entities z27) (ab_mkC s_MWorld_entities (Nat.le_of_ble_eq_true rfl) (Nat.le_of_ble_eq_true rfl) (Nat.le_refl 0) (Nat.le_refl 0)) (k13 3 rfl rfl) i_MWorld_entities v_MWorld_entities (by rw [(s_1).1]; exact q26) (by decide) rfl rfl (Nat.le_of_ble_eq_true rfl) ?_
    have s_2 : Sa H H29 := (s_1).tr (m_MWorld_entities z27)
    exact ab_iret d_M_look_119 rfl (Nat.le_refl _) (Nat.le_refl _) (by have hr := Option.some.inj hF; subst hr; exact ⟨rfl, rfl⟩)
  rw [if_neg t23] at hG
  have ut23 : ¬ (4 : Int) = (p1).toInt := fun z => t23 (Int32.toInt_inj.mp (z.symm.trans (by decide)))
  by_cases t30 : p1 = 5
  · rw [if_pos t30] at hG
    refine ab_tableIn (off := 114) (tgt := 120) d_M_look_6 (by rw [t30]; decide) (by rw [t30]; decide) (by rw [t30]; decide) (by decide) ?_
    refine ab_aload_n d_M_look_120 rfl rfl rfl ?_
    obtain ⟨a31, e32, hF⟩ := rf_s hG; clear hG
    refine hp_getR (f := 9) d_M_look_121 (by rw [(s_1).1]; exact q1) (by decide) rfl (by decide) (k10 2 rfl rfl) rfl e32 ?_
    obtain ⟨q33, hG⟩ := ck_s hF; clear hF
    rw [(s_1).1] at q33
    refine hp_getIN (f := 8) d_M_look_124 (by rw [(s_1).1]; exact q33) (by decide) rfl (by decide) (k9 112 rfl rfl) rfl ?_
    refine ab_topi (fun x34 ex34 => ?_)
    replace hG := bnd_s ex34 hG
    exact ab_iret d_M_look_127 rfl (Nat.le_refl _) (Nat.le_refl _) (by have hr := Option.some.inj hG; subst hr; exact ⟨rfl, rfl⟩)
  rw [if_neg t30] at hG
  have ut30 : ¬ (5 : Int) = (p1).toInt := fun z => t30 (Int32.toInt_inj.mp (z.symm.trans (by decide)))
  by_cases t35 : p1 = 6
  · rw [if_pos t35] at hG
    refine ab_tableIn (off := 122) (tgt := 128) d_M_look_6 (by rw [t35]; decide) (by rw [t35]; decide) (by rw [t35]; decide) (by decide) ?_
    refine ab_aload_n d_M_look_128 rfl rfl rfl ?_
    obtain ⟨a36, e37, hF⟩ := rf_s hG; clear hG
    refine hp_getR (f := 9) d_M_look_129 (by rw [(s_1).1]; exact q1) (by decide) rfl (by decide) (k10 2 rfl rfl) rfl e37 ?_
    obtain ⟨q38, hG⟩ := ck_s hF; clear hF
    rw [(s_1).1] at q38
    refine hp_getIN (f := 2) d_M_look_132 (by rw [(s_1).1]; exact q38) (by decide) rfl (by decide) (k9 94 rfl rfl) rfl ?_
    refine ab_topi (fun x39 ex39 => ?_)
    replace hG := bnd_s ex39 hG
    exact ab_iret d_M_look_135 rfl (Nat.le_refl _) (Nat.le_refl _) (by have hr := Option.some.inj hG; subst hr; exact ⟨rfl, rfl⟩)
  rw [if_neg t35] at hG
  have ut35 : ¬ (6 : Int) = (p1).toInt := fun z => t35 (Int32.toInt_inj.mp (z.symm.trans (by decide)))
  by_cases t40 : p1 = 7
  · rw [if_pos t40] at hG
    refine ab_tableIn (off := 130) (tgt := 136) d_M_look_6 (by rw [t40]; decide) (by rw [t40]; decide) (by rw [t40]; decide) (by decide) ?_
    refine ab_aload_n d_M_look_136 rfl rfl rfl ?_
    obtain ⟨a41, e42, hF⟩ := rf_s hG; clear hG
    refine hp_getR (f := 9) d_M_look_137 (by rw [(s_1).1]; exact q1) (by decide) rfl (by decide) (k10 2 rfl rfl) rfl e42 ?_
    obtain ⟨q43, hG⟩ := ck_s hF; clear hF
    rw [(s_1).1] at q43
    refine hp_getIN (f := 3) d_M_look_140 (by rw [(s_1).1]; exact q43) (by decide) rfl (by decide) (k9 97 rfl rfl) rfl ?_
    refine ab_topi (fun x44 ex44 => ?_)
    replace hG := bnd_s ex44 hG
    exact ab_iret d_M_look_143 rfl (Nat.le_refl _) (Nat.le_refl _) (by have hr := Option.some.inj hG; subst hr; exact ⟨rfl, rfl⟩)
  rw [if_neg t40] at hG
  have ut40 : ¬ (7 : Int) = (p1).toInt := fun z => t40 (Int32.toInt_inj.mp (z.symm.trans (by decide)))
  by_cases t45 : p1 = 8
  · rw [if_pos t45] at hG
    refine ab_tableIn (off := 138) (tgt := 144) d_M_look_6 (by rw [t45]; decide) (by rw [t45]; decide) (by rw [t45]; decide) (by decide) ?_
    refine ab_aload_n d_M_look_144 rfl rfl rfl ?_
    refine hp_getI (f := 20) d_M_look_145 (by rw [(s_1).1]; exact q1) (by decide) rfl (by decide) (k10 13 rfl rfl) rfl ?_
    refine ab_topi (fun x46 ex46 => ?_)
    replace hG := bnd_s ex46 hG
    exact ab_iret d_M_look_148 rfl (Nat.le_refl _) (Nat.le_refl _) (by have hr := Option.some.inj hG; subst hr; exact ⟨rfl, rfl⟩)
  rw [if_neg t45] at hG
  have ut45 : ¬ (8 : Int) = (p1).toInt := fun z => t45 (Int32.toInt_inj.mp (z.symm.trans (by decide)))
  by_cases t47 : p1 = 9
  · rw [if_pos t47] at hG
    refine ab_tableIn (off := 143) (tgt := 149) d_M_look_6 (by rw [t47]; decide) (by rw [t47]; decide) (by rw [t47]; decide) (by decide) ?_
    refine ab_aload_n d_M_look_149 rfl rfl rfl ?_
    refine hp_getI (f := 22) d_M_look_150 (by rw [(s_1).1]; exact q1) (by decide) rfl (by decide) (k10 15 rfl rfl) rfl ?_
    refine ab_topi (fun x48 ex48 => ?_)
    replace hG := bnd_s ex48 hG
    exact ab_iret d_M_look_153 rfl (Nat.le_refl _) (Nat.le_refl _) (by have hr := Option.some.inj hG; subst hr; exact ⟨rfl, rfl⟩)
  rw [if_neg t47] at hG
  have ut47 : ¬ (9 : Int) = (p1).toInt := fun z => t47 (Int32.toInt_inj.mp (z.symm.trans (by decide)))
  by_cases t49 : p1 = 10
  · rw [if_pos t49] at hG
    refine ab_tableIn (off := 148) (tgt := 154) d_M_look_6 (by rw [t49]; decide) (by rw [t49]; decide) (by rw [t49]; decide) (by decide) ?_
    refine ab_aload_n d_M_look_154 rfl rfl rfl ?_
    obtain ⟨a50, e51, hF⟩ := rf_s hG; clear hG
    refine hp_getR (f := 3) d_M_look_155 (by rw [(s_1).1]; exact q1) (by decide) rfl (by decide) (k9 236 rfl rfl) rfl e51 ?_
    obtain ⟨q52, hG⟩ := ck_s hF; clear hF
    rw [(s_1).1] at q52
    obtain ⟨v54, H55, z53, hF⟩ := bC_s hG; clear hG
    refine hp_callV_a (v := .int v54) (H1 := H55) (As := []) (rest := []) d_M_look_158 (k_MText_groups z53) (ab_mkC s_MText_groups (Nat.le_of_ble_eq_true rfl) (Nat.le_of_ble_eq_true rfl) (Nat.le_refl 0) (Nat.le_refl 0)) (k13 7 rfl rfl) i_MText_groups v_MText_groups (by rw [(s_1).1]; exact q52) (by decide) rfl rfl (Nat.le_of_ble_eq_true rfl) ?_
    have s_3 : Sa H H55 := (s_1).tr (m_MText_groups z53)
    exact ab_iret d_M_look_161 rfl (Nat.le_refl _) (Nat.le_refl _) (by have hr := Option.some.inj hF; subst hr; exact ⟨rfl, rfl⟩)
  rw [if_neg t49] at hG
  have ut49 : ¬ (10 : Int) = (p1).toInt := fun z => t49 (Int32.toInt_inj.mp (z.symm.trans (by decide)))
  by_cases t56 : p1 = 11
  · rw [if_pos t56] at hG
    refine ab_tableIn (off := 156) (tgt := 162) d_M_look_6 (by rw [t56]; decide) (by rw [t56]; decide) (by rw [t56]; decide) (by decide) ?_
    refine ab_aload_n d_M_look_162 rfl rfl rfl ?_
    refine ab_iconst (v := 1) d_M_look_163 (by decide) ?_
    obtain ⟨v58, H59, z57, hF⟩ := bC_s hG; clear hG
    refine hp_callV_a (v := .int v58) (H1 := H59) (As := [.int 1]) (rest := []) d_M_look_164 (k_M_workers z57) (ab_mkC s_M_workers (Nat.le_of_ble_eq_true rfl) (Nat.le_of_ble_eq_true rfl) (Nat.le_refl 0) (Nat.le_refl 0)) (k11 197 rfl rfl) i_M_workers v_M_workers (by rw [(s_1).1]; exact q1) (by decide) rfl rfl (Nat.le_of_ble_eq_true rfl) ?_
    have s_4 : Sa H H59 := (s_1).tr (m_M_workers z57)
    exact ab_iret d_M_look_167 rfl (Nat.le_refl _) (Nat.le_refl _) (by have hr := Option.some.inj hF; subst hr; exact ⟨rfl, rfl⟩)
  rw [if_neg t56] at hG
  have ut56 : ¬ (11 : Int) = (p1).toInt := fun z => t56 (Int32.toInt_inj.mp (z.symm.trans (by decide)))
  by_cases t60 : p1 = 12
  · rw [if_pos t60] at hG
    refine ab_tableIn (off := 162) (tgt := 168) d_M_look_6 (by rw [t60]; decide) (by rw [t60]; decide) (by rw [t60]; decide) (by decide) ?_
    refine ab_aload_n d_M_look_168 rfl rfl rfl ?_
    refine hp_getI (f := 13) d_M_look_169 (by rw [(s_1).1]; exact q1) (by decide) rfl (by decide) (k10 6 rfl rfl) rfl ?_
    refine ab_topi (fun x61 ex61 => ?_)
    replace hG := bnd_s ex61 hG
    exact ab_iret d_M_look_172 rfl (Nat.le_refl _) (Nat.le_refl _) (by have hr := Option.some.inj hG; subst hr; exact ⟨rfl, rfl⟩)
  rw [if_neg t60] at hG
  have ut60 : ¬ (12 : Int) = (p1).toInt := fun z => t60 (Int32.toInt_inj.mp (z.symm.trans (by decide)))
  by_cases t62 : p1 = 13
  · rw [if_pos t62] at hG
    refine ab_tableIn (off := 167) (tgt := 173) d_M_look_6 (by rw [t62]; decide) (by rw [t62]; decide) (by rw [t62]; decide) (by decide) ?_
    refine ab_aload_n d_M_look_173 rfl rfl rfl ?_
    refine hp_getI (f := 2) d_M_look_174 (by rw [(s_1).1]; exact q1) (by decide) rfl (by decide) (k9 235 rfl rfl) rfl ?_
    refine ab_topi (fun x63 ex63 => ?_)
    replace hG := bnd_s ex63 hG
    exact ab_iret d_M_look_177 rfl (Nat.le_refl _) (Nat.le_refl _) (by have hr := Option.some.inj hG; subst hr; exact ⟨rfl, rfl⟩)
  rw [if_neg t62] at hG
  have ut62 : ¬ (13 : Int) = (p1).toInt := fun z => t62 (Int32.toInt_inj.mp (z.symm.trans (by decide)))
  by_cases t64 : p1 = 14
  · rw [if_pos t64] at hG
    refine ab_tableIn (off := 172) (tgt := 178) d_M_look_6 (by rw [t64]; decide) (by rw [t64]; decide) (by rw [t64]; decide) (by decide) ?_
    refine ab_aload_n d_M_look_178 rfl rfl rfl ?_
    refine hp_getI (f := 12) d_M_look_179 (by rw [(s_1).1]; exact q1) (by decide) rfl (by decide) (k10 5 rfl rfl) rfl ?_
    refine ab_topi (fun x65 ex65 => ?_)
    replace hG := bnd_s ex65 hG
    exact ab_iret d_M_look_182 rfl (Nat.le_refl _) (Nat.le_refl _) (by have hr := Option.some.inj hG; subst hr; exact ⟨rfl, rfl⟩)
  rw [if_neg t64] at hG
  have ut64 : ¬ (14 : Int) = (p1).toInt := fun z => t64 (Int32.toInt_inj.mp (z.symm.trans (by decide)))
  refine ab_tableOut (tgt := 183) d_M_look_6 (by omega) (by decide) ?_
  refine ab_iconst (v := (-1)) d_M_look_183 (by decide) ?_
  exact ab_iret d_M_look_184 rfl (Nat.le_refl _) (Nat.le_refl _) (by have hr := Option.some.inj hG; subst hr; exact ⟨rfl, rfl⟩)
def y_M_fall : ab_Y := (⟨"WorldEngineModel", "fall", "(I)Z"⟩, prog_14_method_40_code, 2, (some FieldType.boolean), [])
theorem d_M_fall_0 : decode y_M_fall.2.1 0 = .ok (.aload_n 0, 1) := by decide +kernel
theorem d_M_fall_1 : decode y_M_fall.2.1 1 = .ok (.iconst 0, 1) := by decide +kernel
theorem d_M_fall_2 : decode y_M_fall.2.1 2 = .ok (.putfield 83, 3) := by decide +kernel
theorem d_M_fall_5 : decode y_M_fall.2.1 5 = .ok (.iload_n 1, 1) := by decide +kernel
theorem d_M_fall_6 : decode y_M_fall.2.1 6 = .ok (.i2l, 1) := by decide +kernel
theorem d_M_fall_7 : decode y_M_fall.2.1 7 = .ok (.lconst 0, 1) := by decide +kernel
theorem d_M_fall_8 : decode y_M_fall.2.1 8 = .ok (.ldc2_w 329, 3) := by decide +kernel
theorem d_M_fall_11 : decode y_M_fall.2.1 11 = .ok (.invokestatic 99, 3) := by decide +kernel
theorem d_M_fall_14 : decode y_M_fall.2.1 14 = .ok (.ifCond .eq 21, 3) := by decide +kernel
theorem d_M_fall_17 : decode y_M_fall.2.1 17 = .ok (.aload_n 0, 1) := by decide +kernel
theorem d_M_fall_18 : decode y_M_fall.2.1 18 = .ok (.getfield 77, 3) := by decide +kernel
theorem d_M_fall_21 : decode y_M_fall.2.1 21 = .ok (.iload_n 1, 1) := by decide +kernel
theorem d_M_fall_22 : decode y_M_fall.2.1 22 = .ok (.baload, 1) := by decide +kernel
theorem d_M_fall_23 : decode y_M_fall.2.1 23 = .ok (.ifCond .eq 12, 3) := by decide +kernel
theorem d_M_fall_26 : decode y_M_fall.2.1 26 = .ok (.aload_n 0, 1) := by decide +kernel
theorem d_M_fall_27 : decode y_M_fall.2.1 27 = .ok (.getfield 80, 3) := by decide +kernel
theorem d_M_fall_30 : decode y_M_fall.2.1 30 = .ok (.iload_n 1, 1) := by decide +kernel
theorem d_M_fall_31 : decode y_M_fall.2.1 31 = .ok (.baload, 1) := by decide +kernel
theorem d_M_fall_32 : decode y_M_fall.2.1 32 = .ok (.ifCond .eq 5, 3) := by decide +kernel
theorem d_M_fall_35 : decode y_M_fall.2.1 35 = .ok (.iconst 0, 1) := by decide +kernel
theorem d_M_fall_36 : decode y_M_fall.2.1 36 = .ok (.ireturn, 1) := by decide +kernel
theorem d_M_fall_37 : decode y_M_fall.2.1 37 = .ok (.aload_n 0, 1) := by decide +kernel
theorem d_M_fall_38 : decode y_M_fall.2.1 38 = .ok (.getfield 80, 3) := by decide +kernel
theorem d_M_fall_41 : decode y_M_fall.2.1 41 = .ok (.iload_n 1, 1) := by decide +kernel
theorem d_M_fall_42 : decode y_M_fall.2.1 42 = .ok (.iconst 1, 1) := by decide +kernel
theorem d_M_fall_43 : decode y_M_fall.2.1 43 = .ok (.bastore, 1) := by decide +kernel
theorem d_M_fall_44 : decode y_M_fall.2.1 44 = .ok (.iconst 1, 1) := by decide +kernel
theorem d_M_fall_45 : decode y_M_fall.2.1 45 = .ok (.ireturn, 1) := by decide +kernel
theorem s_M_fall : ab_Stat y_M_fall 1 := ⟨(k13 14 rfl rfl), (k1 19 rfl rfl), ⟨by decide, by decide⟩, by decide +kernel⟩
theorem i_M_fall : Cond.instanceMethod y_M_fall.1 ∈ ab_T := (k13 12 rfl rfl)
theorem v_M_fall : Cond.selects "WorldEngineModel" y_M_fall.1 y_M_fall.1 ∈ ab_T := (k13 13 rfl rfl)
def F_M_fall (N : Nat) (p0 : Nat) (p1 : Int32) (H : Hp) : Option (Int32 × Hp) :=
    ck (H.sh[p0]? = some (12, 0)) <|
    bnd (H.sD p0 0 (0 : Int32)) fun H2 =>
    bC (F_M_in N ((p1 : Int32).toInt64) (0 : Int64) (7 : Int64) H2) fun v4 H5 =>
    if v4 = (0 : Int32) then
    some (0, H5)
    else
    rf (H5.P p0 25) fun a7 =>
    ar H5 102 a7 fun n9 =>
    ck (inb p1 n9) <|
    bnd ((H5.D a7 (p1).toNatClampNeg)) fun x12 =>
    if x12 = (0 : Int32) then
    some (0, H5)
    else
    rf (H5.P p0 26) fun a14 =>
    ar H5 102 a14 fun n16 =>
    ck (inb p1 n16) <|
    bnd ((H5.D a14 (p1).toNatClampNeg)) fun x19 =>
    if x19 = (0 : Int32) then
    rf (H5.P p0 26) fun a21 =>
    ar H5 102 a21 fun n23 =>
    ck (inb p1 n23) <|
    bnd (H5.sD a21 (p1).toNatClampNeg (vp_nar .boolean (1 : Int32))) fun H26 =>
    some (1, H26)
    else
    some (0, H5)
set_option maxRecDepth 20000 in
set_option maxHeartbeats 2000000 in
theorem m_M_fall {N : Nat} {p0 : Nat} {p1 : Int32} {H : Hp} {r : Int32 × Hp} (hF : F_M_fall N p0 p1 H = some r) : Sa H r.2 := by
  unfold F_M_fall at hF
  have hm := Sa.rf H
  obtain ⟨q27, hG⟩ := ck_s hF; clear hF
  obtain ⟨H28, eH28, hF⟩ := bnd_g hG; clear hG
  replace hm : Sa H H28 := by rw [eH28]; exact hm
  obtain ⟨v30, H31, z29, hG⟩ := bC_s hF; clear hF
  replace hm : Sa H H31 := hm.tr (m_M_in z29)
  rcases ite_s hG with ⟨q_6, hF⟩ | ⟨q_6, hF⟩
  · clear hG
    have hr := Option.some.inj hF; subst hr
    exact hm
  · clear hG
    obtain ⟨a33, e34, hG⟩ := rf_s hF; clear hF
    obtain ⟨n35, q36, hF⟩ := ar_s hG; clear hG
    obtain ⟨q37, hG⟩ := ck_s hF; clear hF
    obtain ⟨x38, -, hF⟩ := bnd_g hG; clear hG
    rcases ite_s hF with ⟨q_7, hG⟩ | ⟨q_7, hG⟩
    · clear hF
      have hr := Option.some.inj hG; subst hr
      exact hm
    · clear hF
      obtain ⟨a40, e41, hF⟩ := rf_s hG; clear hG
      obtain ⟨n42, q43, hG⟩ := ar_s hF; clear hF
      obtain ⟨q44, hF⟩ := ck_s hG; clear hG
      obtain ⟨x45, -, hG⟩ := bnd_g hF; clear hF
      rcases ite_s hG with ⟨q_8, hF⟩ | ⟨q_8, hF⟩
      · clear hG
        obtain ⟨a47, e48, hG⟩ := rf_s hF; clear hF
        obtain ⟨n49, q50, hF⟩ := ar_s hG; clear hG
        obtain ⟨q51, hG⟩ := ck_s hF; clear hF
        obtain ⟨H52, eH52, hF⟩ := bnd_g hG; clear hG
        replace hm : Sa H H52 := by rw [eH52]; exact hm
        have hr := Option.some.inj hF; subst hr
        exact hm
      · clear hG
        have hr := Option.some.inj hF; subst hr
        exact hm
set_option maxRecDepth 20000 in
set_option maxHeartbeats 2000000 in
theorem k_M_fall {N : Nat} {p0 : Nat} {p1 : Int32} {H : Hp} {r : Int32 × Hp} (hF : F_M_fall N p0 p1 H = some r) : ab_M y_M_fall { frames := 1, cells := 0, slots := 0, locals := 25 } [.ref p0, .int p1] (hpw H) (po (.returned (some (.int r.1))) r.2) := by
  unfold F_M_fall at hF
  refine ab_of2 (lv := [some (.ref p0), some (.int p1)]) 0 rfl rfl (Nat.le_of_ble_eq_true rfl) ?_
  refine ab_aload_n d_M_fall_0 rfl rfl rfl ?_
  refine ab_iconst (v := 0) d_M_fall_1 (by decide) ?_
  obtain ⟨q1, hG⟩ := ck_s hF; clear hF
  refine hp_putI (v := 0) (f := 0) d_M_fall_2 q1 (by decide) rfl (by decide) (k9 233 rfl rfl) rfl rfl (fun _ => rfl) (fun _ => rfl) rfl ?_
  refine hp_gen (fun H2 eH2 => ?_)
  replace hG := bnd_s eH2 hG
  have s_1 : Sa H H2 := by rw [eH2]; exact Sa.rf _
  refine ab_iload_n d_M_fall_5 rfl rfl ?_
  refine ab_i2l d_M_fall_6 ?_
  refine ab_lconst (v := 0) d_M_fall_7 (by decide) ?_
  refine ab_ldc2 d_M_fall_8 (k13 15 rfl rfl) ?_
  obtain ⟨v4, H5, z3, hF⟩ := bC_s hG; clear hG
  refine hp_callS_a (v := .int v4) (H1 := H5) (As := [.long ((p1 : Int32).toInt64), .long 0, .long 7]) (rest := []) d_M_fall_11 (k_M_in z3) (ab_mkC s_M_in (Nat.le_of_ble_eq_true rfl) (Nat.le_of_ble_eq_true rfl) (Nat.le_refl 0) (Nat.le_refl 0)) (k10 93 rfl rfl) t_M_in rfl (Nat.le_of_ble_eq_true rfl) ?_
  have s_2 : Sa H H5 := (s_1).tr (m_M_in z3)
  refine ab_if_eq (tgt := 35) d_M_fall_14 (by decide) (fun q6 => ?_) (fun q6 => ?_)
  · rw [if_pos q6] at hF
    refine ab_iconst (v := 0) d_M_fall_35 (by decide) ?_
    exact ab_zret d_M_fall_36 rfl rfl (Nat.le_refl _) (Nat.le_refl _) (by have hr := Option.some.inj hF; subst hr; exact ⟨rfl, rfl⟩)
  · rw [if_neg q6] at hF
    refine ab_aload_n d_M_fall_17 rfl rfl rfl ?_
    obtain ⟨a7, e8, hG⟩ := rf_s hF; clear hF
    refine hp_getR (f := 25) d_M_fall_18 (by rw [(s_2).1]; exact q1) (by decide) rfl (by decide) (k10 18 rfl rfl) rfl e8 ?_
    refine ab_iload_n d_M_fall_21 rfl rfl ?_
    obtain ⟨n9, q10, hF⟩ := ar_s hG; clear hG
    rw [(s_2).1] at q10
    obtain ⟨q11, hG⟩ := ck_s hF; clear hF
    refine hp_zald d_M_fall_22 tZ (by rw [(s_2).1]; exact q10) q11 ?_
    refine ab_topi (fun x12 ex12 => ?_)
    replace hG := bnd_s ex12 hG
    refine ab_if_eq (tgt := 35) d_M_fall_23 (by decide) (fun q13 => ?_) (fun q13 => ?_)
    · rw [if_pos q13] at hG
      refine ab_iconst (v := 0) d_M_fall_35 (by decide) ?_
      exact ab_zret d_M_fall_36 rfl rfl (Nat.le_refl _) (Nat.le_refl _) (by have hr := Option.some.inj hG; subst hr; exact ⟨rfl, rfl⟩)
    · rw [if_neg q13] at hG
      refine ab_aload_n d_M_fall_26 rfl rfl rfl ?_
      obtain ⟨a14, e15, hF⟩ := rf_s hG; clear hG
      refine hp_getR (f := 26) d_M_fall_27 (by rw [(s_2).1]; exact q1) (by decide) rfl (by decide) (k10 19 rfl rfl) rfl e15 ?_
      refine ab_iload_n d_M_fall_30 rfl rfl ?_
      obtain ⟨n16, q17, hG⟩ := ar_s hF; clear hF
      rw [(s_2).1] at q17
      obtain ⟨q18, hF⟩ := ck_s hG; clear hG
      refine hp_zald d_M_fall_31 tZ (by rw [(s_2).1]; exact q17) q18 ?_
      refine ab_topi (fun x19 ex19 => ?_)
      replace hF := bnd_s ex19 hF
      refine ab_if_eq (tgt := 37) d_M_fall_32 (by decide) (fun q20 => ?_) (fun q20 => ?_)
      · rw [if_pos q20] at hF
        refine ab_aload_n d_M_fall_37 rfl rfl rfl ?_
        obtain ⟨a21, e22, hG⟩ := rf_s hF; clear hF
        refine hp_getR (f := 26) d_M_fall_38 (by rw [(s_2).1]; exact q1) (by decide) rfl (by decide) (k10 19 rfl rfl) rfl e22 ?_
        refine ab_iload_n d_M_fall_41 rfl rfl ?_
        refine ab_iconst (v := 1) d_M_fall_42 (by decide) ?_
        obtain ⟨n23, q24, hF⟩ := ar_s hG; clear hG
        rw [(s_2).1] at q24
        obtain ⟨q25, hG⟩ := ck_s hF; clear hF
        refine hp_zast d_M_fall_43 tZ (by rw [(s_2).1]; exact q24) q25 ?_
        refine hp_gen (fun H26 eH26 => ?_)
        replace hG := bnd_s eH26 hG
        have s_3 : Sa H H26 := by rw [eH26]; exact s_2
        refine ab_iconst (v := 1) d_M_fall_44 (by decide) ?_
        exact ab_zret d_M_fall_45 rfl rfl (Nat.le_refl _) (Nat.le_refl _) (by have hr := Option.some.inj hG; subst hr; exact ⟨rfl, rfl⟩)
      · rw [if_neg q20] at hF
        refine ab_iconst (v := 0) d_M_fall_35 (by decide) ?_
        exact ab_zret d_M_fall_36 rfl rfl (Nat.le_refl _) (Nat.le_refl _) (by have hr := Option.some.inj hF; subst hr; exact ⟨rfl, rfl⟩)
def y_M_stand : ab_Y := (⟨"WorldEngineModel", "stand", "(I)Z"⟩, prog_14_method_41_code, 2, (some FieldType.boolean), [])
theorem d_M_stand_0 : decode y_M_stand.2.1 0 = .ok (.aload_n 0, 1) := by decide +kernel
theorem d_M_stand_1 : decode y_M_stand.2.1 1 = .ok (.iconst 0, 1) := by decide +kernel
theorem d_M_stand_2 : decode y_M_stand.2.1 2 = .ok (.putfield 83, 3) := by decide +kernel
theorem d_M_stand_5 : decode y_M_stand.2.1 5 = .ok (.iload_n 1, 1) := by decide +kernel
theorem d_M_stand_6 : decode y_M_stand.2.1 6 = .ok (.i2l, 1) := by decide +kernel
theorem d_M_stand_7 : decode y_M_stand.2.1 7 = .ok (.lconst 0, 1) := by decide +kernel
theorem d_M_stand_8 : decode y_M_stand.2.1 8 = .ok (.ldc2_w 329, 3) := by decide +kernel
theorem d_M_stand_11 : decode y_M_stand.2.1 11 = .ok (.invokestatic 99, 3) := by decide +kernel
theorem d_M_stand_14 : decode y_M_stand.2.1 14 = .ok (.ifCond .eq 21, 3) := by decide +kernel
theorem d_M_stand_17 : decode y_M_stand.2.1 17 = .ok (.aload_n 0, 1) := by decide +kernel
theorem d_M_stand_18 : decode y_M_stand.2.1 18 = .ok (.getfield 77, 3) := by decide +kernel
theorem d_M_stand_21 : decode y_M_stand.2.1 21 = .ok (.iload_n 1, 1) := by decide +kernel
theorem d_M_stand_22 : decode y_M_stand.2.1 22 = .ok (.baload, 1) := by decide +kernel
theorem d_M_stand_23 : decode y_M_stand.2.1 23 = .ok (.ifCond .eq 14, 3) := by decide +kernel
theorem d_M_stand_26 : decode y_M_stand.2.1 26 = .ok (.aload_n 0, 1) := by decide +kernel
theorem d_M_stand_27 : decode y_M_stand.2.1 27 = .ok (.getfield 80, 3) := by decide +kernel
theorem d_M_stand_30 : decode y_M_stand.2.1 30 = .ok (.iload_n 1, 1) := by decide +kernel
theorem d_M_stand_31 : decode y_M_stand.2.1 31 = .ok (.baload, 1) := by decide +kernel
theorem d_M_stand_32 : decode y_M_stand.2.1 32 = .ok (.ifCond .ne 5, 3) := by decide +kernel
theorem d_M_stand_35 : decode y_M_stand.2.1 35 = .ok (.iconst 0, 1) := by decide +kernel
theorem d_M_stand_36 : decode y_M_stand.2.1 36 = .ok (.ireturn, 1) := by decide +kernel
theorem d_M_stand_37 : decode y_M_stand.2.1 37 = .ok (.aload_n 0, 1) := by decide +kernel
theorem d_M_stand_38 : decode y_M_stand.2.1 38 = .ok (.getfield 77, 3) := by decide +kernel
theorem d_M_stand_41 : decode y_M_stand.2.1 41 = .ok (.iload_n 1, 1) := by decide +kernel
theorem d_M_stand_42 : decode y_M_stand.2.1 42 = .ok (.iconst 1, 1) := by decide +kernel
theorem d_M_stand_43 : decode y_M_stand.2.1 43 = .ok (.bastore, 1) := by decide +kernel
theorem d_M_stand_44 : decode y_M_stand.2.1 44 = .ok (.aload_n 0, 1) := by decide +kernel
theorem d_M_stand_45 : decode y_M_stand.2.1 45 = .ok (.getfield 80, 3) := by decide +kernel
theorem d_M_stand_48 : decode y_M_stand.2.1 48 = .ok (.iload_n 1, 1) := by decide +kernel
theorem d_M_stand_49 : decode y_M_stand.2.1 49 = .ok (.iconst 0, 1) := by decide +kernel
theorem d_M_stand_50 : decode y_M_stand.2.1 50 = .ok (.bastore, 1) := by decide +kernel
theorem d_M_stand_51 : decode y_M_stand.2.1 51 = .ok (.iconst 1, 1) := by decide +kernel
theorem d_M_stand_52 : decode y_M_stand.2.1 52 = .ok (.ireturn, 1) := by decide +kernel
theorem s_M_stand : ab_Stat y_M_stand 1 := ⟨(k13 19 rfl rfl), (k1 19 rfl rfl), ⟨by decide, by decide⟩, by decide +kernel⟩
theorem i_M_stand : Cond.instanceMethod y_M_stand.1 ∈ ab_T := (k13 17 rfl rfl)
theorem v_M_stand : Cond.selects "WorldEngineModel" y_M_stand.1 y_M_stand.1 ∈ ab_T := (k13 18 rfl rfl)
def B_M_stand_37 (N : Nat) (p0 : Nat) (p1 : Int32)  (H : Hp) : Option (Int32 × Hp) :=
    ck (H.sh[p0]? = some (12, 0)) <|
    rf (H.P p0 25) fun a15 =>
    ar H 102 a15 fun n17 =>
    ck (inb p1 n17) <|
    bnd (H.sD a15 (p1).toNatClampNeg (vp_nar .boolean (1 : Int32))) fun H20 =>
    rf (H20.P p0 26) fun a21 =>
    ar H20 102 a21 fun n23 =>
    ck (inb p1 n23) <|
    bnd (H20.sD a21 (p1).toNatClampNeg (vp_nar .boolean (0 : Int32))) fun H26 =>
    some (1, H26)
set_option maxRecDepth 20000 in
set_option maxHeartbeats 2000000 in
theorem mB_M_stand_37 {N : Nat} {p0 : Nat} {p1 : Int32}  {H : Hp} {r : Int32 × Hp} (hF : B_M_stand_37 N p0 p1  H = some r) : Sa H r.2 := by
  unfold B_M_stand_37 at hF
  have hm := Sa.rf H
  obtain ⟨q27, hG⟩ := ck_s hF; clear hF
  obtain ⟨a28, e29, hF⟩ := rf_s hG; clear hG
  obtain ⟨n30, q31, hG⟩ := ar_s hF; clear hF
  obtain ⟨q32, hF⟩ := ck_s hG; clear hG
  obtain ⟨H33, eH33, hG⟩ := bnd_g hF; clear hF
  replace hm : Sa H H33 := by rw [eH33]; exact hm
  obtain ⟨a34, e35, hF⟩ := rf_s hG; clear hG
  obtain ⟨n36, q37, hG⟩ := ar_s hF; clear hF
  obtain ⟨q38, hF⟩ := ck_s hG; clear hG
  obtain ⟨H39, eH39, hG⟩ := bnd_g hF; clear hF
  replace hm : Sa H H39 := by rw [eH39]; exact hm
  have hr := Option.some.inj hG; subst hr
  exact hm
set_option maxRecDepth 20000 in
set_option maxHeartbeats 2000000 in
theorem kB_M_stand_37 {N : Nat} {p0 : Nat} {p1 : Int32}  {H : Hp} {r : Int32 × Hp} (hF : B_M_stand_37 N p0 p1  H = some r) : ab_V y_M_stand { frames := 1, cells := 0, slots := 0, locals := 25 } (po (.returned (some (.int r.1))) r.2) 0 0 0 0 37 [some (.ref p0), some (.int p1)] [] (hpw H) := by
  unfold B_M_stand_37 at hF
  refine ab_aload_n d_M_stand_37 rfl rfl rfl ?_
  obtain ⟨q14, hG⟩ := ck_s hF; clear hF
  obtain ⟨a15, e16, hF⟩ := rf_s hG; clear hG
  refine hp_getR (f := 25) d_M_stand_38 q14 (by decide) rfl (by decide) (k10 18 rfl rfl) rfl e16 ?_
  refine ab_iload_n d_M_stand_41 rfl rfl ?_
  refine ab_iconst (v := 1) d_M_stand_42 (by decide) ?_
  obtain ⟨n17, q18, hG⟩ := ar_s hF; clear hF
  obtain ⟨q19, hF⟩ := ck_s hG; clear hG
  refine hp_zast d_M_stand_43 tZ q18 q19 ?_
  refine hp_gen (fun H20 eH20 => ?_)
  replace hF := bnd_s eH20 hF
  have s_3 : Sa H H20 := by rw [eH20]; exact Sa.rf _
  refine ab_aload_n d_M_stand_44 rfl rfl rfl ?_
  obtain ⟨a21, e22, hG⟩ := rf_s hF; clear hF
  refine hp_getR (f := 26) d_M_stand_45 (by rw [(s_3).1]; exact q14) (by decide) rfl (by decide) (k10 19 rfl rfl) rfl e22 ?_
  refine ab_iload_n d_M_stand_48 rfl rfl ?_
  refine ab_iconst (v := 0) d_M_stand_49 (by decide) ?_
  obtain ⟨n23, q24, hF⟩ := ar_s hG; clear hG
  rw [(s_3).1] at q24
  obtain ⟨q25, hG⟩ := ck_s hF; clear hF
  refine hp_zast d_M_stand_50 tZ (by rw [(s_3).1]; exact q24) q25 ?_
  refine hp_gen (fun H26 eH26 => ?_)
  replace hG := bnd_s eH26 hG
  have s_4 : Sa H H26 := by rw [eH26]; exact s_3
  refine ab_iconst (v := 1) d_M_stand_51 (by decide) ?_
  exact ab_zret d_M_stand_52 rfl rfl (Nat.le_refl _) (Nat.le_refl _) (by have hr := Option.some.inj hG; subst hr; exact ⟨rfl, rfl⟩)
def F_M_stand (N : Nat) (p0 : Nat) (p1 : Int32) (H : Hp) : Option (Int32 × Hp) :=
    ck (H.sh[p0]? = some (12, 0)) <|
    bnd (H.sD p0 0 (0 : Int32)) fun H2 =>
    bC (F_M_in N ((p1 : Int32).toInt64) (0 : Int64) (7 : Int64) H2) fun v4 H5 =>
    if v4 = (0 : Int32) then
    some (0, H5)
    else
    rf (H5.P p0 25) fun a7 =>
    ar H5 102 a7 fun n9 =>
    ck (inb p1 n9) <|
    bnd ((H5.D a7 (p1).toNatClampNeg)) fun x12 =>
    if x12 = (0 : Int32) then
    B_M_stand_37 N p0 p1  H5
    else
    rf (H5.P p0 26) fun a40 =>
    ar H5 102 a40 fun n42 =>
    ck (inb p1 n42) <|
    bnd ((H5.D a40 (p1).toNatClampNeg)) fun x45 =>
    if x45 = (0 : Int32) then
    some (0, H5)
    else
    B_M_stand_37 N p0 p1  H5
set_option maxRecDepth 20000 in
set_option maxHeartbeats 2000000 in
theorem m_M_stand {N : Nat} {p0 : Nat} {p1 : Int32} {H : Hp} {r : Int32 × Hp} (hF : F_M_stand N p0 p1 H = some r) : Sa H r.2 := by
  unfold F_M_stand at hF
  have hm := Sa.rf H
  obtain ⟨q47, hG⟩ := ck_s hF; clear hF
  obtain ⟨H48, eH48, hF⟩ := bnd_g hG; clear hG
  replace hm : Sa H H48 := by rw [eH48]; exact hm
  obtain ⟨v50, H51, z49, hG⟩ := bC_s hF; clear hF
  replace hm : Sa H H51 := hm.tr (m_M_in z49)
  rcases ite_s hG with ⟨q_9, hF⟩ | ⟨q_9, hF⟩
  · clear hG
    have hr := Option.some.inj hF; subst hr
    exact hm
  · clear hG
    obtain ⟨a53, e54, hG⟩ := rf_s hF; clear hF
    obtain ⟨n55, q56, hF⟩ := ar_s hG; clear hG
    obtain ⟨q57, hG⟩ := ck_s hF; clear hF
    obtain ⟨x58, -, hF⟩ := bnd_g hG; clear hG
    rcases ite_s hF with ⟨q_10, hG⟩ | ⟨q_10, hG⟩
    · clear hF
      exact hm.tr (mB_M_stand_37 hG)
    · clear hF
      obtain ⟨a60, e61, hF⟩ := rf_s hG; clear hG
      obtain ⟨n62, q63, hG⟩ := ar_s hF; clear hF
      obtain ⟨q64, hF⟩ := ck_s hG; clear hG
      obtain ⟨x65, -, hG⟩ := bnd_g hF; clear hF
      rcases ite_s hG with ⟨q_11, hF⟩ | ⟨q_11, hF⟩
      · clear hG
        have hr := Option.some.inj hF; subst hr
        exact hm
      · clear hG
        exact hm.tr (mB_M_stand_37 hF)
set_option maxRecDepth 20000 in
set_option maxHeartbeats 2000000 in
theorem k_M_stand {N : Nat} {p0 : Nat} {p1 : Int32} {H : Hp} {r : Int32 × Hp} (hF : F_M_stand N p0 p1 H = some r) : ab_M y_M_stand { frames := 1, cells := 0, slots := 0, locals := 25 } [.ref p0, .int p1] (hpw H) (po (.returned (some (.int r.1))) r.2) := by
  unfold F_M_stand at hF
  refine ab_of2 (lv := [some (.ref p0), some (.int p1)]) 0 rfl rfl (Nat.le_of_ble_eq_true rfl) ?_
  refine ab_aload_n d_M_stand_0 rfl rfl rfl ?_
  refine ab_iconst (v := 0) d_M_stand_1 (by decide) ?_
  obtain ⟨q1, hG⟩ := ck_s hF; clear hF
  refine hp_putI (v := 0) (f := 0) d_M_stand_2 q1 (by decide) rfl (by decide) (k9 233 rfl rfl) rfl rfl (fun _ => rfl) (fun _ => rfl) rfl ?_
  refine hp_gen (fun H2 eH2 => ?_)
  replace hG := bnd_s eH2 hG
  have s_1 : Sa H H2 := by rw [eH2]; exact Sa.rf _
  refine ab_iload_n d_M_stand_5 rfl rfl ?_
  refine ab_i2l d_M_stand_6 ?_
  refine ab_lconst (v := 0) d_M_stand_7 (by decide) ?_
  refine ab_ldc2 d_M_stand_8 (k13 15 rfl rfl) ?_
  obtain ⟨v4, H5, z3, hF⟩ := bC_s hG; clear hG
  refine hp_callS_a (v := .int v4) (H1 := H5) (As := [.long ((p1 : Int32).toInt64), .long 0, .long 7]) (rest := []) d_M_stand_11 (k_M_in z3) (ab_mkC s_M_in (Nat.le_of_ble_eq_true rfl) (Nat.le_of_ble_eq_true rfl) (Nat.le_refl 0) (Nat.le_refl 0)) (k10 93 rfl rfl) t_M_in rfl (Nat.le_of_ble_eq_true rfl) ?_
  have s_2 : Sa H H5 := (s_1).tr (m_M_in z3)
  refine ab_if_eq (tgt := 35) d_M_stand_14 (by decide) (fun q6 => ?_) (fun q6 => ?_)
  · rw [if_pos q6] at hF
    refine ab_iconst (v := 0) d_M_stand_35 (by decide) ?_
    exact ab_zret d_M_stand_36 rfl rfl (Nat.le_refl _) (Nat.le_refl _) (by have hr := Option.some.inj hF; subst hr; exact ⟨rfl, rfl⟩)
  · rw [if_neg q6] at hF
    refine ab_aload_n d_M_stand_17 rfl rfl rfl ?_
    obtain ⟨a7, e8, hG⟩ := rf_s hF; clear hF
    refine hp_getR (f := 25) d_M_stand_18 (by rw [(s_2).1]; exact q1) (by decide) rfl (by decide) (k10 18 rfl rfl) rfl e8 ?_
    refine ab_iload_n d_M_stand_21 rfl rfl ?_
    obtain ⟨n9, q10, hF⟩ := ar_s hG; clear hG
    rw [(s_2).1] at q10
    obtain ⟨q11, hG⟩ := ck_s hF; clear hF
    refine hp_zald d_M_stand_22 tZ (by rw [(s_2).1]; exact q10) q11 ?_
    refine ab_topi (fun x12 ex12 => ?_)
    replace hG := bnd_s ex12 hG
    refine ab_if_eq (tgt := 37) d_M_stand_23 (by decide) (fun q13 => ?_) (fun q13 => ?_)
    · rw [if_pos q13] at hG
      exact kB_M_stand_37 hG
    · rw [if_neg q13] at hG
      refine ab_aload_n d_M_stand_26 rfl rfl rfl ?_
      obtain ⟨a40, e41, hF⟩ := rf_s hG; clear hG
      refine hp_getR (f := 26) d_M_stand_27 (by rw [(s_2).1]; exact q1) (by decide) rfl (by decide) (k10 19 rfl rfl) rfl e41 ?_
      refine ab_iload_n d_M_stand_30 rfl rfl ?_
      obtain ⟨n42, q43, hG⟩ := ar_s hF; clear hF
      rw [(s_2).1] at q43
      obtain ⟨q44, hF⟩ := ck_s hG; clear hG
      refine hp_zald d_M_stand_31 tZ (by rw [(s_2).1]; exact q43) q44 ?_
      refine ab_topi (fun x45 ex45 => ?_)
      replace hF := bnd_s ex45 hF
      refine ab_if_ne (tgt := 37) d_M_stand_32 (by decide) (fun q46 => ?_) (fun q46 => ?_)
      · rw [if_neg q46] at hF
        exact kB_M_stand_37 hF
      · rw [if_pos q46] at hF
        refine ab_iconst (v := 0) d_M_stand_35 (by decide) ?_
        exact ab_zret d_M_stand_36 rfl rfl (Nat.le_refl _) (Nat.le_refl _) (by have hr := Option.some.inj hF; subst hr; exact ⟨rfl, rfl⟩)
def y_M_pace : ab_Y := (⟨"WorldEngineModel", "pace", "(I)V"⟩, prog_14_method_42_code, 2, none, [])
theorem d_M_pace_0 : decode y_M_pace.2.1 0 = .ok (.aload_n 0, 1) := by decide +kernel
theorem d_M_pace_1 : decode y_M_pace.2.1 1 = .ok (.iconst 0, 1) := by decide +kernel
theorem d_M_pace_2 : decode y_M_pace.2.1 2 = .ok (.putfield 83, 3) := by decide +kernel
theorem d_M_pace_5 : decode y_M_pace.2.1 5 = .ok (.return_, 1) := by decide +kernel
theorem s_M_pace : ab_Stat y_M_pace 1 := ⟨(k13 23 rfl rfl), (k1 19 rfl rfl), ⟨by decide, by decide⟩, by decide +kernel⟩
theorem i_M_pace : Cond.instanceMethod y_M_pace.1 ∈ ab_T := (k13 21 rfl rfl)
theorem v_M_pace : Cond.selects "WorldEngineModel" y_M_pace.1 y_M_pace.1 ∈ ab_T := (k13 22 rfl rfl)
def F_M_pace (N : Nat) (p0 : Nat) (p1 : Int32) (H : Hp) : Option (Unit × Hp) :=
    ck (H.sh[p0]? = some (12, 0)) <|
    bnd (H.sD p0 0 (0 : Int32)) fun H2 =>
    some ((), H2)
set_option maxRecDepth 20000 in
set_option maxHeartbeats 2000000 in
theorem m_M_pace {N : Nat} {p0 : Nat} {p1 : Int32} {H : Hp} {r : Unit × Hp} (hF : F_M_pace N p0 p1 H = some r) : Sa H r.2 := by
  unfold F_M_pace at hF
  have hm := Sa.rf H
  obtain ⟨q3, hG⟩ := ck_s hF; clear hF
  obtain ⟨H4, eH4, hF⟩ := bnd_g hG; clear hG
  replace hm : Sa H H4 := by rw [eH4]; exact hm
  have hr := Option.some.inj hF; subst hr
  exact hm
set_option maxRecDepth 20000 in
set_option maxHeartbeats 2000000 in
theorem k_M_pace {N : Nat} {p0 : Nat} {p1 : Int32} {H : Hp} {r : Unit × Hp} (hF : F_M_pace N p0 p1 H = some r) : ab_M y_M_pace { frames := 0, cells := 0, slots := 0, locals := 0 } [.ref p0, .int p1] (hpw H) (po (.returned none) r.2) := by
  unfold F_M_pace at hF
  refine ab_of2 (lv := [some (.ref p0), some (.int p1)]) 0 rfl rfl (Nat.le_of_ble_eq_true rfl) ?_
  refine ab_aload_n d_M_pace_0 rfl rfl rfl ?_
  refine ab_iconst (v := 0) d_M_pace_1 (by decide) ?_
  obtain ⟨q1, hG⟩ := ck_s hF; clear hF
  refine hp_putI (v := 0) (f := 0) d_M_pace_2 q1 (by decide) rfl (by decide) (k9 233 rfl rfl) rfl rfl (fun _ => rfl) (fun _ => rfl) rfl ?_
  refine hp_gen (fun H2 eH2 => ?_)
  replace hG := bnd_s eH2 hG
  have s_1 : Sa H H2 := by rw [eH2]; exact Sa.rf _
  exact ab_vret d_M_pace_5 rfl (Nat.le_refl _) (Nat.le_refl _) (by have hr := Option.some.inj hG; subst hr; exact ⟨rfl, rfl⟩)
def y_M_puts : ab_Y := (⟨"WorldEngineModel", "puts", "(II)V"⟩, prog_14_method_43_code, 5, none, [])
theorem d_M_puts_0 : decode y_M_puts.2.1 0 = .ok (.iload_n 2, 1) := by decide +kernel
theorem d_M_puts_1 : decode y_M_puts.2.1 1 = .ok (.iconst 1, 1) := by decide +kernel
theorem d_M_puts_2 : decode y_M_puts.2.1 2 = .ok (.isub, 1) := by decide +kernel
theorem d_M_puts_3 : decode y_M_puts.2.1 3 = .ok (.istore_n 3, 1) := by decide +kernel
theorem d_M_puts_4 : decode y_M_puts.2.1 4 = .ok (.iload_n 3, 1) := by decide +kernel
theorem d_M_puts_5 : decode y_M_puts.2.1 5 = .ok (.ifCond .lt 67, 3) := by decide +kernel
theorem d_M_puts_8 : decode y_M_puts.2.1 8 = .ok (.iload_n 1, 1) := by decide +kernel
theorem d_M_puts_9 : decode y_M_puts.2.1 9 = .ok (.bipush 8, 2) := by decide +kernel
theorem d_M_puts_11 : decode y_M_puts.2.1 11 = .ok (.iload_n 3, 1) := by decide +kernel
theorem d_M_puts_12 : decode y_M_puts.2.1 12 = .ok (.imul, 1) := by decide +kernel
theorem d_M_puts_13 : decode y_M_puts.2.1 13 = .ok (.ishr, 1) := by decide +kernel
theorem d_M_puts_14 : decode y_M_puts.2.1 14 = .ok (.sipush 255, 3) := by decide +kernel
theorem d_M_puts_17 : decode y_M_puts.2.1 17 = .ok (.iand, 1) := by decide +kernel
theorem d_M_puts_18 : decode y_M_puts.2.1 18 = .ok (.istore 4, 2) := by decide +kernel
theorem d_M_puts_20 : decode y_M_puts.2.1 20 = .ok (.aload_n 0, 1) := by decide +kernel
theorem d_M_puts_21 : decode y_M_puts.2.1 21 = .ok (.getfield 331, 3) := by decide +kernel
theorem d_M_puts_24 : decode y_M_puts.2.1 24 = .ok (.ifCond .eq 20, 3) := by decide +kernel
theorem d_M_puts_27 : decode y_M_puts.2.1 27 = .ok (.aload_n 0, 1) := by decide +kernel
theorem d_M_puts_28 : decode y_M_puts.2.1 28 = .ok (.bipush 31, 2) := by decide +kernel
theorem d_M_puts_30 : decode y_M_puts.2.1 30 = .ok (.aload_n 0, 1) := by decide +kernel
theorem d_M_puts_31 : decode y_M_puts.2.1 31 = .ok (.getfield 334, 3) := by decide +kernel
theorem d_M_puts_34 : decode y_M_puts.2.1 34 = .ok (.imul, 1) := by decide +kernel
theorem d_M_puts_35 : decode y_M_puts.2.1 35 = .ok (.iload 4, 2) := by decide +kernel
theorem d_M_puts_37 : decode y_M_puts.2.1 37 = .ok (.iadd, 1) := by decide +kernel
theorem d_M_puts_38 : decode y_M_puts.2.1 38 = .ok (.putfield 334, 3) := by decide +kernel
theorem d_M_puts_41 : decode y_M_puts.2.1 41 = .ok (.goto 25, 3) := by decide +kernel
theorem d_M_puts_44 : decode y_M_puts.2.1 44 = .ok (.aload_n 0, 1) := by decide +kernel
theorem d_M_puts_45 : decode y_M_puts.2.1 45 = .ok (.getfield 74, 3) := by decide +kernel
theorem d_M_puts_48 : decode y_M_puts.2.1 48 = .ok (.aload_n 0, 1) := by decide +kernel
theorem d_M_puts_49 : decode y_M_puts.2.1 49 = .ok (.getfield 323, 3) := by decide +kernel
theorem d_M_puts_52 : decode y_M_puts.2.1 52 = .ok (.iload 4, 2) := by decide +kernel
theorem d_M_puts_54 : decode y_M_puts.2.1 54 = .ok (.i2b, 1) := by decide +kernel
theorem d_M_puts_55 : decode y_M_puts.2.1 55 = .ok (.bastore, 1) := by decide +kernel
theorem d_M_puts_56 : decode y_M_puts.2.1 56 = .ok (.aload_n 0, 1) := by decide +kernel
theorem d_M_puts_57 : decode y_M_puts.2.1 57 = .ok (.dup, 1) := by decide +kernel
theorem d_M_puts_58 : decode y_M_puts.2.1 58 = .ok (.getfield 323, 3) := by decide +kernel
theorem d_M_puts_61 : decode y_M_puts.2.1 61 = .ok (.iconst 1, 1) := by decide +kernel
theorem d_M_puts_62 : decode y_M_puts.2.1 62 = .ok (.iadd, 1) := by decide +kernel
theorem d_M_puts_63 : decode y_M_puts.2.1 63 = .ok (.putfield 323, 3) := by decide +kernel
theorem d_M_puts_66 : decode y_M_puts.2.1 66 = .ok (.iinc 3 (-1), 3) := by decide +kernel
theorem d_M_puts_69 : decode y_M_puts.2.1 69 = .ok (.goto (-65), 3) := by decide +kernel
theorem d_M_puts_72 : decode y_M_puts.2.1 72 = .ok (.return_, 1) := by decide +kernel
theorem s_M_puts : ab_Stat y_M_puts 2 := ⟨(k13 35 rfl rfl), (k1 19 rfl rfl), ⟨by decide, by decide⟩, by decide +kernel⟩
theorem i_M_puts : Cond.instanceMethod y_M_puts.1 ∈ ab_T := (k13 34 rfl rfl)
theorem v_M_puts : Cond.selects "WorldEngineModel" y_M_puts.1 y_M_puts.1 ∈ ab_T := ab_s (List.mem_of_getElem? (i := 210) rfl) rfl
def B_M_puts_66 (N : Nat) (p0 : Nat) (p1 : Int32) (p2 : Int32) (kq4 : Int32 → Hp → Option (Unit × Hp)) (l3 : Int32) (H : Hp) : Option (Unit × Hp) :=
    kq4 (l3 + (-1)) H
set_option maxRecDepth 20000 in
set_option maxHeartbeats 2000000 in
theorem mB_M_puts_66 {N : Nat} {p0 : Nat} {p1 : Int32} {p2 : Int32} {kq4 : Int32 → Hp → Option (Unit × Hp)} (hm4 : ∀ (l3 : Int32) (H : Hp) (r : Unit × Hp), kq4 l3 H = some r → Sa H r.2) {l3 : Int32} {H : Hp} {r : Unit × Hp} (hF : B_M_puts_66 N p0 p1 p2 kq4 l3 H = some r) : Sa H r.2 := by
  unfold B_M_puts_66 at hF
  have hm := Sa.rf H
  exact hm.tr (hm4 (l3 + (-1)) H r hF)
set_option maxRecDepth 20000 in
set_option maxHeartbeats 2000000 in
theorem kB_M_puts_66 {N : Nat} {p0 : Nat} {p1 : Int32} {p2 : Int32} {kq4 : Int32 → Hp → Option (Unit × Hp)} (hm4 : ∀ (l3 : Int32) (H : Hp) (r : Unit × Hp), kq4 l3 H = some r → Sa H r.2) (hk4 : ∀ (l3 : Int32) (H : Hp) (r : Unit × Hp), kq4 l3 H = some r → ab_V y_M_puts { frames := 0, cells := 0, slots := 0, locals := 0 } (po (.returned none) r.2) 0 0 0 0 4 [some (.ref p0), some (.int p1), some (.int p2), some (.int l3), none] [] (hpw H)) {l3 : Int32} {H : Hp} {r : Unit × Hp} (hF : B_M_puts_66 N p0 p1 p2 kq4 l3 H = some r) : ab_V y_M_puts { frames := 0, cells := 0, slots := 0, locals := 0 } (po (.returned none) r.2) 0 0 0 0 66 [some (.ref p0), some (.int p1), some (.int p2), some (.int l3), none] [] (hpw H) := by
  unfold B_M_puts_66 at hF
  refine ab_iinc (v := l3 + (-1)) (lv' := [some (.ref p0), some (.int p1), some (.int p2), some (.int (l3 + (-1))), none]) d_M_puts_66 rfl rfl (by decide) rfl ?_
  refine ab_goto (tgt := 4) d_M_puts_69 (by decide) ?_
  exact hk4 (l3 + (-1)) H r hF
def B_M_puts_4 (N : Nat) (p0 : Nat) (p1 : Int32) (p2 : Int32) : Nat → Int32 → Hp → Option (Unit × Hp)
  | 0, _, _ => none
  | n + 1, l3, H =>
    if l3 < (0 : Int32) then
    some ((), H)
    else
    bnd (((p1 >>> (((8 : Int32) * l3) &&& 31)) &&& (255 : Int32))) fun x3 =>
    ck (H.sh[p0]? = some (12, 0)) <|
    bnd ((H.D p0 24)) fun x5 =>
    if x5 = (0 : Int32) then
    rf (H.P p0 21) fun a7 =>
    bnd ((H.D p0 22)) fun x9 =>
    ar H 101 a7 fun n10 =>
    ck (inb x9 n10) <|
    bnd (H.sD a7 (x9).toNatClampNeg (vp_nar .byte ((x3 : Int32).toInt8.toInt32))) fun H13 =>
    bnd ((H13.D p0 22)) fun x14 =>
    bnd (H13.sD p0 22 (x14 + (1 : Int32))) fun H15 =>
    B_M_puts_66 N p0 p1 p2 (fun l3 H => B_M_puts_4 N p0 p1 p2 n l3 H) l3 H15
    else
    bnd ((H.D p0 23)) fun x16 =>
    bnd (H.sD p0 23 (((31 : Int32) * x16) + x3)) fun H17 =>
    B_M_puts_66 N p0 p1 p2 (fun l3 H => B_M_puts_4 N p0 p1 p2 n l3 H) l3 H17
termination_by structural n => n
set_option maxRecDepth 20000 in
set_option maxHeartbeats 2000000 in
theorem mB_M_puts_4 {N : Nat} {p0 : Nat} {p1 : Int32} {p2 : Int32} : ∀ (n : Nat) (l3 : Int32) (H : Hp) (r : Unit × Hp), B_M_puts_4 N p0 p1 p2 n l3 H = some r → Sa H r.2 := by
  intro n
  induction n with
  | zero => intro l3 H r hF; rw [B_M_puts_4] at hF; cases hF
  | succ n ih =>
    intro l3 H r hF
    rw [B_M_puts_4] at hF
    have hm := Sa.rf H
    rcases ite_s hF with ⟨q_4, hG⟩ | ⟨q_4, hG⟩
    · clear hF
      have hr := Option.some.inj hG; subst hr
      exact hm
    · clear hF
      obtain ⟨x19, -, hF⟩ := bnd_g hG; clear hG
      obtain ⟨q20, hG⟩ := ck_s hF; clear hF
      obtain ⟨x21, -, hF⟩ := bnd_g hG; clear hG
      rcases ite_s hF with ⟨q_5, hG⟩ | ⟨q_5, hG⟩
      · clear hF
        obtain ⟨a23, e24, hF⟩ := rf_s hG; clear hG
        obtain ⟨x25, -, hG⟩ := bnd_g hF; clear hF
        obtain ⟨n26, q27, hF⟩ := ar_s hG; clear hG
        obtain ⟨q28, hG⟩ := ck_s hF; clear hF
        obtain ⟨H29, eH29, hF⟩ := bnd_g hG; clear hG
        replace hm : Sa H H29 := by rw [eH29]; exact hm
        obtain ⟨x30, -, hG⟩ := bnd_g hF; clear hF
        obtain ⟨H31, eH31, hF⟩ := bnd_g hG; clear hG
        replace hm : Sa H H31 := by rw [eH31]; exact hm
        exact hm.tr (mB_M_puts_66 ih hF)
      · clear hF
        obtain ⟨x32, -, hF⟩ := bnd_g hG; clear hG
        obtain ⟨H33, eH33, hG⟩ := bnd_g hF; clear hF
        replace hm : Sa H H33 := by rw [eH33]; exact hm
        exact hm.tr (mB_M_puts_66 ih hG)
set_option maxRecDepth 20000 in
set_option maxHeartbeats 2000000 in
theorem kB_M_puts_4 {N : Nat} {p0 : Nat} {p1 : Int32} {p2 : Int32} : ∀ (n : Nat) (l3 : Int32) (H : Hp) (r : Unit × Hp), B_M_puts_4 N p0 p1 p2 n l3 H = some r → ab_V y_M_puts { frames := 0, cells := 0, slots := 0, locals := 0 } (po (.returned none) r.2) 0 0 0 0 4 [some (.ref p0), some (.int p1), some (.int p2), some (.int l3), none] [] (hpw H) := by
  intro n
  induction n with
  | zero => intro l3 H r hF; rw [B_M_puts_4] at hF; cases hF
  | succ n ih =>
    intro l3 H r hF
    rw [B_M_puts_4] at hF
    refine ab_iload_n d_M_puts_4 rfl rfl ?_
    refine ab_if_lt (tgt := 72) d_M_puts_5 (by decide) (fun q2 => ?_) (fun q2 => ?_)
    · rw [if_pos q2] at hF
      exact ab_vret d_M_puts_72 rfl (Nat.le_refl _) (Nat.le_refl _) (by have hr := Option.some.inj hF; subst hr; exact ⟨rfl, rfl⟩)
    · rw [if_neg q2] at hF
      refine ab_iload_n d_M_puts_8 rfl rfl ?_
      refine ab_bipush (v := 8) d_M_puts_9 (by decide) ?_
      refine ab_iload_n d_M_puts_11 rfl rfl ?_
      refine ab_imul d_M_puts_12 ?_
      refine ab_ishr d_M_puts_13 ?_
      refine ab_sipush (v := 255) d_M_puts_14 (by decide) ?_
      refine ab_iand d_M_puts_17 ?_
      refine ab_topi (fun x3 ex3 => ?_)
      replace hF := bnd_s ex3 hF
      refine ab_istore (lv' := [some (.ref p0), some (.int p1), some (.int p2), some (.int l3), some (.int x3)]) d_M_puts_18 (by decide) rfl ?_
      refine ab_aload_n d_M_puts_20 rfl rfl rfl ?_
      obtain ⟨q4, hG⟩ := ck_s hF; clear hF
      refine hp_getI (f := 24) d_M_puts_21 q4 (by decide) rfl (by decide) (k10 17 rfl rfl) rfl ?_
      refine ab_topi (fun x5 ex5 => ?_)
      replace hG := bnd_s ex5 hG
      refine ab_if_eq (tgt := 44) d_M_puts_24 (by decide) (fun q6 => ?_) (fun q6 => ?_)
      · rw [if_pos q6] at hG
        refine ab_aload_n d_M_puts_44 rfl rfl rfl ?_
        obtain ⟨a7, e8, hF⟩ := rf_s hG; clear hG
        refine hp_getR (f := 21) d_M_puts_45 q4 (by decide) rfl (by decide) (k10 14 rfl rfl) rfl e8 ?_
        refine ab_aload_n d_M_puts_48 rfl rfl rfl ?_
        refine hp_getI (f := 22) d_M_puts_49 q4 (by decide) rfl (by decide) (k10 15 rfl rfl) rfl ?_
        refine ab_topi (fun x9 ex9 => ?_)
        replace hF := bnd_s ex9 hF
        refine ab_iload d_M_puts_52 rfl ?_
        refine ab_i2b d_M_puts_54 ?_
        obtain ⟨n10, q11, hG⟩ := ar_s hF; clear hF
        obtain ⟨q12, hF⟩ := ck_s hG; clear hG
        refine hp_bast d_M_puts_55 tB q11 q12 ?_
        refine hp_gen (fun H13 eH13 => ?_)
        replace hF := bnd_s eH13 hF
        have s_1 : Sa H H13 := by rw [eH13]; exact Sa.rf _
        refine ab_aload_n d_M_puts_56 rfl rfl rfl ?_
        refine ab_dup d_M_puts_57 rfl ?_
        refine hp_getI (f := 22) d_M_puts_58 (by rw [(s_1).1]; exact q4) (by decide) rfl (by decide) (k10 15 rfl rfl) rfl ?_
        refine ab_topi (fun x14 ex14 => ?_)
        replace hF := bnd_s ex14 hF
        refine ab_iconst (v := 1) d_M_puts_61 (by decide) ?_
        refine ab_iadd d_M_puts_62 ?_
        refine hp_putI (v := x14 + (1 : Int32)) (f := 22) d_M_puts_63 (by rw [(s_1).1]; exact q4) (by decide) rfl (by decide) (k10 15 rfl rfl) rfl rfl (fun _ => rfl) (fun _ => rfl) rfl ?_
        refine hp_gen (fun H15 eH15 => ?_)
        replace hF := bnd_s eH15 hF
        have s_2 : Sa H H15 := by rw [eH15]; exact s_1
        refine ab_le (lv' := [some (.ref p0), some (.int p1), some (.int p2), some (.int l3), none]) ⟨rfl, ⟨rfl, ⟨rfl, ⟨rfl, trivial⟩⟩⟩⟩ ?_
        exact kB_M_puts_66 (mB_M_puts_4 n) ih hF
      · rw [if_neg q6] at hG
        refine ab_aload_n d_M_puts_27 rfl rfl rfl ?_
        refine ab_bipush (v := 31) d_M_puts_28 (by decide) ?_
        refine ab_aload_n d_M_puts_30 rfl rfl rfl ?_
        refine hp_getI (f := 23) d_M_puts_31 q4 (by decide) rfl (by decide) (k10 16 rfl rfl) rfl ?_
        refine ab_topi (fun x16 ex16 => ?_)
        replace hG := bnd_s ex16 hG
        refine ab_imul d_M_puts_34 ?_
        refine ab_iload d_M_puts_35 rfl ?_
        refine ab_iadd d_M_puts_37 ?_
        refine hp_putI (v := ((31 : Int32) * x16) + x3) (f := 23) d_M_puts_38 q4 (by decide) rfl (by decide) (k10 16 rfl rfl) rfl rfl (fun _ => rfl) (fun _ => rfl) rfl ?_
        refine hp_gen (fun H17 eH17 => ?_)
        replace hG := bnd_s eH17 hG
        have s_3 : Sa H H17 := by rw [eH17]; exact Sa.rf _
        refine ab_goto (tgt := 66) d_M_puts_41 (by decide) ?_
        refine ab_le (lv' := [some (.ref p0), some (.int p1), some (.int p2), some (.int l3), none]) ⟨rfl, ⟨rfl, ⟨rfl, ⟨rfl, trivial⟩⟩⟩⟩ ?_
        exact kB_M_puts_66 (mB_M_puts_4 n) ih hG
def F_M_puts (N : Nat) (p0 : Nat) (p1 : Int32) (p2 : Int32) (H : Hp) : Option (Unit × Hp) :=
    bnd ((p2 - (1 : Int32))) fun x1 =>
    B_M_puts_4 N p0 p1 p2 N x1 H
set_option maxRecDepth 20000 in
set_option maxHeartbeats 2000000 in
theorem m_M_puts {N : Nat} {p0 : Nat} {p1 : Int32} {p2 : Int32} {H : Hp} {r : Unit × Hp} (hF : F_M_puts N p0 p1 p2 H = some r) : Sa H r.2 := by
  unfold F_M_puts at hF
  have hm := Sa.rf H
  obtain ⟨x34, -, hG⟩ := bnd_g hF; clear hF
  exact hm.tr (mB_M_puts_4 N x34 H r hG)
set_option maxRecDepth 20000 in
set_option maxHeartbeats 2000000 in
theorem k_M_puts {N : Nat} {p0 : Nat} {p1 : Int32} {p2 : Int32} {H : Hp} {r : Unit × Hp} (hF : F_M_puts N p0 p1 p2 H = some r) : ab_M y_M_puts { frames := 0, cells := 0, slots := 0, locals := 0 } [.ref p0, .int p1, .int p2] (hpw H) (po (.returned none) r.2) := by
  unfold F_M_puts at hF
  refine ab_of2 (lv := [some (.ref p0), some (.int p1), some (.int p2), none, none]) 2 rfl rfl (Nat.le_of_ble_eq_true rfl) ?_
  refine ab_iload_n d_M_puts_0 rfl rfl ?_
  refine ab_iconst (v := 1) d_M_puts_1 (by decide) ?_
  refine ab_isub d_M_puts_2 ?_
  refine ab_topi (fun x1 ex1 => ?_)
  replace hF := bnd_s ex1 hF
  refine ab_istore_n (lv' := [some (.ref p0), some (.int p1), some (.int p2), some (.int x1), none]) d_M_puts_3 rfl (by decide) rfl ?_
  exact kB_M_puts_4 N x1 H r hF
