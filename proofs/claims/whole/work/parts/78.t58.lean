def y_M_changed : ab_Y := (⟨"WorldEngineModel", "changed", "(III)I"⟩, prog_14_method_16_code, 3, (some FieldType.int), [])
theorem d_M_changed_0 : decode y_M_changed.2.1 0 = .ok (.iload_n 0, 1) := by decide +kernel
theorem d_M_changed_1 : decode y_M_changed.2.1 1 = .ok (.iload_n 1, 1) := by decide +kernel
theorem d_M_changed_2 : decode y_M_changed.2.1 2 = .ok (.if_icmp .ne 5, 3) := by decide +kernel
theorem d_M_changed_5 : decode y_M_changed.2.1 5 = .ok (.iload_n 2, 1) := by decide +kernel
theorem d_M_changed_6 : decode y_M_changed.2.1 6 = .ok (.ireturn, 1) := by decide +kernel
theorem d_M_changed_7 : decode y_M_changed.2.1 7 = .ok (.iload_n 0, 1) := by decide +kernel
theorem d_M_changed_8 : decode y_M_changed.2.1 8 = .ok (.iconst 4, 1) := by decide +kernel
theorem d_M_changed_9 : decode y_M_changed.2.1 9 = .ok (.if_icmp .eq 8, 3) := by decide +kernel
theorem d_M_changed_12 : decode y_M_changed.2.1 12 = .ok (.iload_n 1, 1) := by decide +kernel
theorem d_M_changed_13 : decode y_M_changed.2.1 13 = .ok (.iconst 4, 1) := by decide +kernel
theorem d_M_changed_14 : decode y_M_changed.2.1 14 = .ok (.if_icmp .ne 8, 3) := by decide +kernel
theorem d_M_changed_17 : decode y_M_changed.2.1 17 = .ok (.iload_n 1, 1) := by decide +kernel
theorem d_M_changed_18 : decode y_M_changed.2.1 18 = .ok (.invokestatic 187, 3) := by decide +kernel
theorem d_M_changed_21 : decode y_M_changed.2.1 21 = .ok (.ireturn, 1) := by decide +kernel
theorem d_M_changed_22 : decode y_M_changed.2.1 22 = .ok (.iload_n 1, 1) := by decide +kernel
theorem d_M_changed_23 : decode y_M_changed.2.1 23 = .ok (.iconst 2, 1) := by decide +kernel
theorem d_M_changed_24 : decode y_M_changed.2.1 24 = .ok (.if_icmp .ne 14, 3) := by decide +kernel
theorem d_M_changed_27 : decode y_M_changed.2.1 27 = .ok (.iconst 2, 1) := by decide +kernel
theorem d_M_changed_28 : decode y_M_changed.2.1 28 = .ok (.ldc2_w 221, 3) := by decide +kernel
theorem d_M_changed_31 : decode y_M_changed.2.1 31 = .ok (.iload_n 2, 1) := by decide +kernel
theorem d_M_changed_32 : decode y_M_changed.2.1 32 = .ok (.i2l, 1) := by decide +kernel
theorem d_M_changed_33 : decode y_M_changed.2.1 33 = .ok (.lmul, 1) := by decide +kernel
theorem d_M_changed_34 : decode y_M_changed.2.1 34 = .ok (.invokestatic 223, 3) := by decide +kernel
theorem d_M_changed_37 : decode y_M_changed.2.1 37 = .ok (.ireturn, 1) := by decide +kernel
theorem d_M_changed_38 : decode y_M_changed.2.1 38 = .ok (.iload_n 1, 1) := by decide +kernel
theorem d_M_changed_39 : decode y_M_changed.2.1 39 = .ok (.iconst 3, 1) := by decide +kernel
theorem d_M_changed_40 : decode y_M_changed.2.1 40 = .ok (.if_icmp .ne 13, 3) := by decide +kernel
theorem d_M_changed_43 : decode y_M_changed.2.1 43 = .ok (.iload_n 2, 1) := by decide +kernel
theorem d_M_changed_44 : decode y_M_changed.2.1 44 = .ok (.ifCond .ne 7, 3) := by decide +kernel
theorem d_M_changed_47 : decode y_M_changed.2.1 47 = .ok (.iconst 0, 1) := by decide +kernel
theorem d_M_changed_48 : decode y_M_changed.2.1 48 = .ok (.goto 4, 3) := by decide +kernel
theorem d_M_changed_51 : decode y_M_changed.2.1 51 = .ok (.iconst 1, 1) := by decide +kernel
theorem d_M_changed_52 : decode y_M_changed.2.1 52 = .ok (.ireturn, 1) := by decide +kernel
theorem d_M_changed_53 : decode y_M_changed.2.1 53 = .ok (.iload_n 1, 1) := by decide +kernel
theorem d_M_changed_54 : decode y_M_changed.2.1 54 = .ok (.iload_n 0, 1) := by decide +kernel
theorem d_M_changed_55 : decode y_M_changed.2.1 55 = .ok (.iconst 2, 1) := by decide +kernel
theorem d_M_changed_56 : decode y_M_changed.2.1 56 = .ok (.if_icmp .ne 11, 3) := by decide +kernel
theorem d_M_changed_59 : decode y_M_changed.2.1 59 = .ok (.iload_n 2, 1) := by decide +kernel
theorem d_M_changed_60 : decode y_M_changed.2.1 60 = .ok (.bipush 16, 2) := by decide +kernel
theorem d_M_changed_62 : decode y_M_changed.2.1 62 = .ok (.ishr, 1) := by decide +kernel
theorem d_M_changed_63 : decode y_M_changed.2.1 63 = .ok (.i2l, 1) := by decide +kernel
theorem d_M_changed_64 : decode y_M_changed.2.1 64 = .ok (.goto 5, 3) := by decide +kernel
theorem d_M_changed_67 : decode y_M_changed.2.1 67 = .ok (.iload_n 2, 1) := by decide +kernel
theorem d_M_changed_68 : decode y_M_changed.2.1 68 = .ok (.i2l, 1) := by decide +kernel
theorem d_M_changed_69 : decode y_M_changed.2.1 69 = .ok (.invokestatic 223, 3) := by decide +kernel
theorem d_M_changed_72 : decode y_M_changed.2.1 72 = .ok (.ireturn, 1) := by decide +kernel
theorem s_M_changed : ab_Stat y_M_changed 3 := ⟨(k11 182 rfl rfl), (k1 19 rfl rfl), ⟨by decide, by decide⟩, by decide +kernel⟩
theorem t_M_changed : Cond.static y_M_changed.1 ∈ ab_T := (k11 181 rfl rfl)
def B_M_changed_17 (N : Nat) (p0 : Int32) (p1 : Int32) (p2 : Int32)  (H : Hp) : Option (Int32 × Hp) :=
    bC (F_M_first N p1 H) fun v4 H5 =>
    some (v4, H5)
set_option maxRecDepth 20000 in
set_option maxHeartbeats 2000000 in
theorem mB_M_changed_17 {N : Nat} {p0 : Int32} {p1 : Int32} {p2 : Int32}  {H : Hp} {r : Int32 × Hp} (hF : B_M_changed_17 N p0 p1 p2  H = some r) : Sa H r.2 := by
  unfold B_M_changed_17 at hF
  have hm := Sa.rf H
  obtain ⟨v7, H8, z6, hG⟩ := bC_s hF; clear hF
  replace hm : Sa H H8 := hm.tr (m_M_first z6)
  have hr := Option.some.inj hG; subst hr
  exact hm
set_option maxRecDepth 20000 in
set_option maxHeartbeats 2000000 in
theorem kB_M_changed_17 {N : Nat} {p0 : Int32} {p1 : Int32} {p2 : Int32}  {H : Hp} {r : Int32 × Hp} (hF : B_M_changed_17 N p0 p1 p2  H = some r) : ab_V y_M_changed { frames := 1, cells := 0, slots := 0, locals := 22 } (po (.returned (some (.int r.1))) r.2) 0 0 0 0 17 [some (.int p0), some (.int p1), some (.int p2)] [] (hpw H) := by
  unfold B_M_changed_17 at hF
  refine ab_iload_n d_M_changed_17 rfl rfl ?_
  obtain ⟨v4, H5, z3, hG⟩ := bC_s hF; clear hF
  refine hp_callS_a (v := .int v4) (H1 := H5) (As := [.int p1]) (rest := []) d_M_changed_18 (k_M_first z3) (ab_mkC s_M_first (Nat.le_of_ble_eq_true rfl) (Nat.le_of_ble_eq_true rfl) (Nat.le_refl 0) (Nat.le_refl 0)) (k11 179 rfl rfl) t_M_first rfl (Nat.le_of_ble_eq_true rfl) ?_
  have s_1 : Sa H H5 := (m_M_first z3)
  exact ab_iret d_M_changed_21 rfl (Nat.le_refl _) (Nat.le_refl _) (by have hr := Option.some.inj hG; subst hr; exact ⟨rfl, rfl⟩)
def B_M_changed_69 (N : Nat) (p0 : Int32) (p1 : Int32) (p2 : Int32) (w0 : Int32) (w1 : Int64) (H : Hp) : Option (Int32 × Hp) :=
    bC (F_M_held N w0 w1 H) fun v14 H15 =>
    some (v14, H15)
set_option maxRecDepth 20000 in
set_option maxHeartbeats 2000000 in
theorem mB_M_changed_69 {N : Nat} {p0 : Int32} {p1 : Int32} {p2 : Int32} {w0 : Int32} {w1 : Int64} {H : Hp} {r : Int32 × Hp} (hF : B_M_changed_69 N p0 p1 p2 w0 w1 H = some r) : Sa H r.2 := by
  unfold B_M_changed_69 at hF
  have hm := Sa.rf H
  obtain ⟨v17, H18, z16, hG⟩ := bC_s hF; clear hF
  replace hm : Sa H H18 := hm.tr (m_M_held z16)
  have hr := Option.some.inj hG; subst hr
  exact hm
set_option maxRecDepth 20000 in
set_option maxHeartbeats 2000000 in
theorem kB_M_changed_69 {N : Nat} {p0 : Int32} {p1 : Int32} {p2 : Int32} {w0 : Int32} {w1 : Int64} {H : Hp} {r : Int32 × Hp} (hF : B_M_changed_69 N p0 p1 p2 w0 w1 H = some r) : ab_V y_M_changed { frames := 1, cells := 0, slots := 0, locals := 22 } (po (.returned (some (.int r.1))) r.2) 0 0 0 0 69 [some (.int p0), some (.int p1), some (.int p2)] [.long w1, .int w0] (hpw H) := by
  unfold B_M_changed_69 at hF
  obtain ⟨v14, H15, z13, hG⟩ := bC_s hF; clear hF
  refine hp_callS_a (v := .int v14) (H1 := H15) (As := [.int w0, .long w1]) (rest := []) d_M_changed_69 (k_M_held z13) (ab_mkC s_M_held (Nat.le_of_ble_eq_true rfl) (Nat.le_of_ble_eq_true rfl) (Nat.le_refl 0) (Nat.le_refl 0)) (k11 184 rfl rfl) t_M_held rfl (Nat.le_of_ble_eq_true rfl) ?_
  have s_3 : Sa H H15 := (m_M_held z13)
  exact ab_iret d_M_changed_72 rfl (Nat.le_refl _) (Nat.le_refl _) (by have hr := Option.some.inj hG; subst hr; exact ⟨rfl, rfl⟩)
def F_M_changed (N : Nat) (p0 : Int32) (p1 : Int32) (p2 : Int32) (H : Hp) : Option (Int32 × Hp) :=
    if p0 = p1 then
    some (p2, H)
    else
    if p0 = (4 : Int32) then
    B_M_changed_17 N p0 p1 p2  H
    else
    if p1 = (4 : Int32) then
    B_M_changed_17 N p0 p1 p2  H
    else
    if p1 = (2 : Int32) then
    bC (F_M_held N (2 : Int32) ((65536 : Int64) * ((p2 : Int32).toInt64)) H) fun v21 H22 =>
    some (v21, H22)
    else
    if p1 = (3 : Int32) then
    if p2 = (0 : Int32) then
    some (0, H)
    else
    some (1, H)
    else
    if p0 = (2 : Int32) then
    B_M_changed_69 N p0 p1 p2 p1 (((p2 >>> ((16 : Int32) &&& 31)) : Int32).toInt64) H
    else
    B_M_changed_69 N p0 p1 p2 p1 ((p2 : Int32).toInt64) H
set_option maxRecDepth 20000 in
set_option maxHeartbeats 2000000 in
theorem m_M_changed {N : Nat} {p0 : Int32} {p1 : Int32} {p2 : Int32} {H : Hp} {r : Int32 × Hp} (hF : F_M_changed N p0 p1 p2 H = some r) : Sa H r.2 := by
  unfold F_M_changed at hF
  have hm := Sa.rf H
  rcases ite_s hF with ⟨q_6, hG⟩ | ⟨q_6, hG⟩
  · clear hF
    have hr := Option.some.inj hG; subst hr
    exact hm
  · clear hF
    rcases ite_s hG with ⟨q_7, hF⟩ | ⟨q_7, hF⟩
    · clear hG
      exact hm.tr (mB_M_changed_17 hF)
    · clear hG
      rcases ite_s hF with ⟨q_8, hG⟩ | ⟨q_8, hG⟩
      · clear hF
        exact hm.tr (mB_M_changed_17 hG)
      · clear hF
        rcases ite_s hG with ⟨q_9, hF⟩ | ⟨q_9, hF⟩
        · clear hG
          obtain ⟨v28, H29, z27, hG⟩ := bC_s hF; clear hF
          replace hm : Sa H H29 := hm.tr (m_M_held z27)
          have hr := Option.some.inj hG; subst hr
          exact hm
        · clear hG
          rcases ite_s hF with ⟨q_11, hG⟩ | ⟨q_11, hG⟩
          · clear hF
            rcases ite_s hG with ⟨q_12, hF⟩ | ⟨q_12, hF⟩
            · clear hG
              have hr := Option.some.inj hF; subst hr
              exact hm
            · clear hG
              have hr := Option.some.inj hF; subst hr
              exact hm
          · clear hF
            rcases ite_s hG with ⟨q_13, hF⟩ | ⟨q_13, hF⟩
            · clear hG
              exact hm.tr (mB_M_changed_69 hF)
            · clear hG
              exact hm.tr (mB_M_changed_69 hF)
set_option maxRecDepth 20000 in
set_option maxHeartbeats 2000000 in
theorem k_M_changed {N : Nat} {p0 : Int32} {p1 : Int32} {p2 : Int32} {H : Hp} {r : Int32 × Hp} (hF : F_M_changed N p0 p1 p2 H = some r) : ab_M y_M_changed { frames := 1, cells := 0, slots := 0, locals := 22 } [.int p0, .int p1, .int p2] (hpw H) (po (.returned (some (.int r.1))) r.2) := by
  unfold F_M_changed at hF
  refine ab_of2 (lv := [some (.int p0), some (.int p1), some (.int p2)]) 0 rfl rfl (Nat.le_of_ble_eq_true rfl) ?_
  refine ab_iload_n d_M_changed_0 rfl rfl ?_
  refine ab_iload_n d_M_changed_1 rfl rfl ?_
  refine ab_icmp_ne (tgt := 7) d_M_changed_2 (by decide) (fun q1 => ?_) (fun q1 => ?_)
  · rw [if_neg q1] at hF
    refine ab_iload_n d_M_changed_7 rfl rfl ?_
    refine ab_iconst (v := 4) d_M_changed_8 (by decide) ?_
    refine ab_icmp_eq (tgt := 17) d_M_changed_9 (by decide) (fun q2 => ?_) (fun q2 => ?_)
    · rw [if_pos q2] at hF
      exact kB_M_changed_17 hF
    · rw [if_neg q2] at hF
      refine ab_iload_n d_M_changed_12 rfl rfl ?_
      refine ab_iconst (v := 4) d_M_changed_13 (by decide) ?_
      refine ab_icmp_ne (tgt := 22) d_M_changed_14 (by decide) (fun q9 => ?_) (fun q9 => ?_)
      · rw [if_neg q9] at hF
        refine ab_iload_n d_M_changed_22 rfl rfl ?_
        refine ab_iconst (v := 2) d_M_changed_23 (by decide) ?_
        refine ab_icmp_ne (tgt := 38) d_M_changed_24 (by decide) (fun q10 => ?_) (fun q10 => ?_)
        · rw [if_neg q10] at hF
          refine ab_iload_n d_M_changed_38 rfl rfl ?_
          refine ab_iconst (v := 3) d_M_changed_39 (by decide) ?_
          refine ab_icmp_ne (tgt := 53) d_M_changed_40 (by decide) (fun q11 => ?_) (fun q11 => ?_)
          · rw [if_neg q11] at hF
            refine ab_iload_n d_M_changed_53 rfl rfl ?_
            refine ab_iload_n d_M_changed_54 rfl rfl ?_
            refine ab_iconst (v := 2) d_M_changed_55 (by decide) ?_
            refine ab_icmp_ne (tgt := 67) d_M_changed_56 (by decide) (fun q12 => ?_) (fun q12 => ?_)
            · rw [if_neg q12] at hF
              refine ab_iload_n d_M_changed_67 rfl rfl ?_
              refine ab_i2l d_M_changed_68 ?_
              exact kB_M_changed_69 hF
            · rw [if_pos q12] at hF
              refine ab_iload_n d_M_changed_59 rfl rfl ?_
              refine ab_bipush (v := 16) d_M_changed_60 (by decide) ?_
              refine ab_ishr d_M_changed_62 ?_
              refine ab_i2l d_M_changed_63 ?_
              refine ab_goto (tgt := 69) d_M_changed_64 (by decide) ?_
              exact kB_M_changed_69 hF
          · rw [if_pos q11] at hF
            refine ab_iload_n d_M_changed_43 rfl rfl ?_
            refine ab_if_ne (tgt := 51) d_M_changed_44 (by decide) (fun q19 => ?_) (fun q19 => ?_)
            · rw [if_neg q19] at hF
              refine ab_iconst (v := 1) d_M_changed_51 (by decide) ?_
              exact ab_iret d_M_changed_52 rfl (Nat.le_refl _) (Nat.le_refl _) (by have hr := Option.some.inj hF; subst hr; exact ⟨rfl, rfl⟩)
            · rw [if_pos q19] at hF
              refine ab_iconst (v := 0) d_M_changed_47 (by decide) ?_
              refine ab_goto (tgt := 52) d_M_changed_48 (by decide) ?_
              exact ab_iret d_M_changed_52 rfl (Nat.le_refl _) (Nat.le_refl _) (by have hr := Option.some.inj hF; subst hr; exact ⟨rfl, rfl⟩)
        · rw [if_pos q10] at hF
          refine ab_iconst (v := 2) d_M_changed_27 (by decide) ?_
          refine ab_ldc2 d_M_changed_28 (k11 183 rfl rfl) ?_
          refine ab_iload_n d_M_changed_31 rfl rfl ?_
          refine ab_i2l d_M_changed_32 ?_
          refine ab_lmul d_M_changed_33 ?_
          obtain ⟨v21, H22, z20, hG⟩ := bC_s hF; clear hF
          refine hp_callS_a (v := .int v21) (H1 := H22) (As := [.int 2, .long ((65536 : Int64) * ((p2 : Int32).toInt64))]) (rest := []) d_M_changed_34 (k_M_held z20) (ab_mkC s_M_held (Nat.le_of_ble_eq_true rfl) (Nat.le_of_ble_eq_true rfl) (Nat.le_refl 0) (Nat.le_refl 0)) (k11 184 rfl rfl) t_M_held rfl (Nat.le_of_ble_eq_true rfl) ?_
          have s_5 : Sa H H22 := (m_M_held z20)
          exact ab_iret d_M_changed_37 rfl (Nat.le_refl _) (Nat.le_refl _) (by have hr := Option.some.inj hG; subst hr; exact ⟨rfl, rfl⟩)
      · rw [if_pos q9] at hF
        exact kB_M_changed_17 hF
  · rw [if_pos q1] at hF
    refine ab_iload_n d_M_changed_5 rfl rfl ?_
    exact ab_iret d_M_changed_6 rfl (Nat.le_refl _) (Nat.le_refl _) (by have hr := Option.some.inj hF; subst hr; exact ⟨rfl, rfl⟩)
def y_MText_isLike : ab_Y := (⟨"WorldEngineModel$Text", "isLike", "(ILWorldEngineModel$Text;I)Z"⟩, prog_16_method_14_code, 6, (some FieldType.boolean), [])
theorem d_MText_isLike_0 : decode y_MText_isLike.2.1 0 = .ok (.aload_n 0, 1) := by decide +kernel
theorem d_MText_isLike_1 : decode y_MText_isLike.2.1 1 = .ok (.getfield 59, 3) := by decide +kernel
theorem d_MText_isLike_4 : decode y_MText_isLike.2.1 4 = .ok (.iload_n 1, 1) := by decide +kernel
theorem d_MText_isLike_5 : decode y_MText_isLike.2.1 5 = .ok (.iaload, 1) := by decide +kernel
theorem d_MText_isLike_6 : decode y_MText_isLike.2.1 6 = .ok (.aload_n 2, 1) := by decide +kernel
theorem d_MText_isLike_7 : decode y_MText_isLike.2.1 7 = .ok (.getfield 59, 3) := by decide +kernel
theorem d_MText_isLike_10 : decode y_MText_isLike.2.1 10 = .ok (.iload_n 3, 1) := by decide +kernel
theorem d_MText_isLike_11 : decode y_MText_isLike.2.1 11 = .ok (.iaload, 1) := by decide +kernel
theorem d_MText_isLike_12 : decode y_MText_isLike.2.1 12 = .ok (.if_icmp .ne 7, 3) := by decide +kernel
theorem d_MText_isLike_15 : decode y_MText_isLike.2.1 15 = .ok (.iconst 1, 1) := by decide +kernel
theorem d_MText_isLike_16 : decode y_MText_isLike.2.1 16 = .ok (.goto 4, 3) := by decide +kernel
theorem d_MText_isLike_19 : decode y_MText_isLike.2.1 19 = .ok (.iconst 0, 1) := by decide +kernel
theorem d_MText_isLike_20 : decode y_MText_isLike.2.1 20 = .ok (.istore 4, 2) := by decide +kernel
theorem d_MText_isLike_22 : decode y_MText_isLike.2.1 22 = .ok (.iconst 0, 1) := by decide +kernel
theorem d_MText_isLike_23 : decode y_MText_isLike.2.1 23 = .ok (.istore 5, 2) := by decide +kernel
theorem d_MText_isLike_25 : decode y_MText_isLike.2.1 25 = .ok (.iload 5, 2) := by decide +kernel
theorem d_MText_isLike_27 : decode y_MText_isLike.2.1 27 = .ok (.aload_n 0, 1) := by decide +kernel
theorem d_MText_isLike_28 : decode y_MText_isLike.2.1 28 = .ok (.getfield 59, 3) := by decide +kernel
theorem d_MText_isLike_31 : decode y_MText_isLike.2.1 31 = .ok (.iload_n 1, 1) := by decide +kernel
theorem d_MText_isLike_32 : decode y_MText_isLike.2.1 32 = .ok (.iaload, 1) := by decide +kernel
theorem d_MText_isLike_33 : decode y_MText_isLike.2.1 33 = .ok (.if_icmp .ge 46, 3) := by decide +kernel
theorem d_MText_isLike_36 : decode y_MText_isLike.2.1 36 = .ok (.iload 4, 2) := by decide +kernel
theorem d_MText_isLike_38 : decode y_MText_isLike.2.1 38 = .ok (.ifCond .eq 41, 3) := by decide +kernel
theorem d_MText_isLike_41 : decode y_MText_isLike.2.1 41 = .ok (.aload_n 0, 1) := by decide +kernel
theorem d_MText_isLike_42 : decode y_MText_isLike.2.1 42 = .ok (.getfield 62, 3) := by decide +kernel
theorem d_MText_isLike_45 : decode y_MText_isLike.2.1 45 = .ok (.iconst 4, 1) := by decide +kernel
theorem d_MText_isLike_46 : decode y_MText_isLike.2.1 46 = .ok (.iload_n 1, 1) := by decide +kernel
theorem d_MText_isLike_47 : decode y_MText_isLike.2.1 47 = .ok (.imul, 1) := by decide +kernel
theorem d_MText_isLike_48 : decode y_MText_isLike.2.1 48 = .ok (.iload 5, 2) := by decide +kernel
theorem d_MText_isLike_50 : decode y_MText_isLike.2.1 50 = .ok (.iadd, 1) := by decide +kernel
theorem d_MText_isLike_51 : decode y_MText_isLike.2.1 51 = .ok (.iaload, 1) := by decide +kernel
theorem d_MText_isLike_52 : decode y_MText_isLike.2.1 52 = .ok (.aload_n 2, 1) := by decide +kernel
theorem d_MText_isLike_53 : decode y_MText_isLike.2.1 53 = .ok (.getfield 62, 3) := by decide +kernel
theorem d_MText_isLike_56 : decode y_MText_isLike.2.1 56 = .ok (.iconst 4, 1) := by decide +kernel
theorem d_MText_isLike_57 : decode y_MText_isLike.2.1 57 = .ok (.iload_n 3, 1) := by decide +kernel
theorem d_MText_isLike_58 : decode y_MText_isLike.2.1 58 = .ok (.imul, 1) := by decide +kernel
theorem d_MText_isLike_59 : decode y_MText_isLike.2.1 59 = .ok (.iload 5, 2) := by decide +kernel
theorem d_MText_isLike_61 : decode y_MText_isLike.2.1 61 = .ok (.iadd, 1) := by decide +kernel
theorem d_MText_isLike_62 : decode y_MText_isLike.2.1 62 = .ok (.iaload, 1) := by decide +kernel
theorem d_MText_isLike_63 : decode y_MText_isLike.2.1 63 = .ok (.if_icmp .ne 7, 3) := by decide +kernel
theorem d_MText_isLike_66 : decode y_MText_isLike.2.1 66 = .ok (.iconst 1, 1) := by decide +kernel
theorem d_MText_isLike_67 : decode y_MText_isLike.2.1 67 = .ok (.goto 4, 3) := by decide +kernel
theorem d_MText_isLike_70 : decode y_MText_isLike.2.1 70 = .ok (.iconst 0, 1) := by decide +kernel
theorem d_MText_isLike_71 : decode y_MText_isLike.2.1 71 = .ok (.istore 4, 2) := by decide +kernel
theorem d_MText_isLike_73 : decode y_MText_isLike.2.1 73 = .ok (.iinc 5 1, 3) := by decide +kernel
theorem d_MText_isLike_76 : decode y_MText_isLike.2.1 76 = .ok (.goto (-51), 3) := by decide +kernel
theorem d_MText_isLike_79 : decode y_MText_isLike.2.1 79 = .ok (.iload 4, 2) := by decide +kernel
theorem d_MText_isLike_81 : decode y_MText_isLike.2.1 81 = .ok (.ireturn, 1) := by decide +kernel
theorem s_MText_isLike : ab_Stat y_MText_isLike 3 := ⟨(k11 188 rfl rfl), (k1 20 rfl rfl), ⟨by decide, by decide⟩, by decide +kernel⟩
theorem i_MText_isLike : Cond.instanceMethod y_MText_isLike.1 ∈ ab_T := (k11 186 rfl rfl)
theorem v_MText_isLike : Cond.selects "WorldEngineModel$Text" y_MText_isLike.1 y_MText_isLike.1 ∈ ab_T := (k11 187 rfl rfl)
def B_MText_isLike_71 (N : Nat) (p0 : Nat) (p1 : Int32) (p2 : Nat) (p3 : Int32) (kq25 : Int32 → Int32 → Hp → Option (Int32 × Hp)) (l5 : Int32) (w0 : Int32) (H : Hp) : Option (Int32 × Hp) :=
    kq25 w0 (l5 + 1) H
set_option maxRecDepth 20000 in
set_option maxHeartbeats 2000000 in
theorem mB_MText_isLike_71 {N : Nat} {p0 : Nat} {p1 : Int32} {p2 : Nat} {p3 : Int32} {kq25 : Int32 → Int32 → Hp → Option (Int32 × Hp)} (hm25 : ∀ (l4 : Int32) (l5 : Int32) (H : Hp) (r : Int32 × Hp), kq25 l4 l5 H = some r → Sa H r.2) {l5 : Int32} {w0 : Int32} {H : Hp} {r : Int32 × Hp} (hF : B_MText_isLike_71 N p0 p1 p2 p3 kq25 l5 w0 H = some r) : Sa H r.2 := by
  unfold B_MText_isLike_71 at hF
  have hm := Sa.rf H
  exact hm.tr (hm25 w0 (l5 + 1) H r hF)
set_option maxRecDepth 20000 in
set_option maxHeartbeats 2000000 in
theorem kB_MText_isLike_71 {N : Nat} {p0 : Nat} {p1 : Int32} {p2 : Nat} {p3 : Int32} {kq25 : Int32 → Int32 → Hp → Option (Int32 × Hp)} (hm25 : ∀ (l4 : Int32) (l5 : Int32) (H : Hp) (r : Int32 × Hp), kq25 l4 l5 H = some r → Sa H r.2) (hk25 : ∀ (l4 : Int32) (l5 : Int32) (H : Hp) (r : Int32 × Hp), kq25 l4 l5 H = some r → ab_V y_MText_isLike { frames := 0, cells := 0, slots := 0, locals := 0 } (po (.returned (some (.int r.1))) r.2) 0 0 0 0 25 [some (.ref p0), some (.int p1), some (.ref p2), some (.int p3), some (.int l4), some (.int l5)] [] (hpw H)) {l5 : Int32} {w0 : Int32} {H : Hp} {r : Int32 × Hp} (hF : B_MText_isLike_71 N p0 p1 p2 p3 kq25 l5 w0 H = some r) : ab_V y_MText_isLike { frames := 0, cells := 0, slots := 0, locals := 0 } (po (.returned (some (.int r.1))) r.2) 0 0 0 0 71 [some (.ref p0), some (.int p1), some (.ref p2), some (.int p3), none, some (.int l5)] [.int w0] (hpw H) := by
  unfold B_MText_isLike_71 at hF
  refine ab_istore (lv' := [some (.ref p0), some (.int p1), some (.ref p2), some (.int p3), some (.int w0), some (.int l5)]) d_MText_isLike_71 (by decide) rfl ?_
  refine ab_iinc (v := l5 + 1) (lv' := [some (.ref p0), some (.int p1), some (.ref p2), some (.int p3), some (.int w0), some (.int (l5 + 1))]) d_MText_isLike_73 rfl rfl (by decide) rfl ?_
  refine ab_goto (tgt := 25) d_MText_isLike_76 (by decide) ?_
  exact hk25 w0 (l5 + 1) H r hF
def B_MText_isLike_25 (N : Nat) (p0 : Nat) (p1 : Int32) (p2 : Nat) (p3 : Int32) : Nat → Int32 → Int32 → Hp → Option (Int32 × Hp)
  | 0, _, _, _ => none
  | n + 1, l4, l5, H =>
    ck (H.sh[p0]? = some (14, 0)) <|
    rf (H.P p0 23) fun a17 =>
    ar H 100 a17 fun n19 =>
    ck (inb p1 n19) <|
    bnd ((H.D a17 (p1).toNatClampNeg)) fun x22 =>
    if x22 ≤ l5 then
    ck (l4 &&& 1 = l4) <|
    some (l4, H)
    else
    if l4 = (0 : Int32) then
    ck (l4 &&& 1 = l4) <|
    some (l4, H)
    else
    rf (H.P p0 24) fun a27 =>
    ar H 100 a27 fun n29 =>
    ck (inb (((4 : Int32) * p1) + l5) n29) <|
    bnd ((H.D a27 ((((4 : Int32) * p1) + l5)).toNatClampNeg)) fun x32 =>
    ck (H.sh[p2]? = some (14, 0)) <|
    rf (H.P p2 24) fun a34 =>
    ar H 100 a34 fun n36 =>
    ck (inb (((4 : Int32) * p3) + l5) n36) <|
    bnd ((H.D a34 ((((4 : Int32) * p3) + l5)).toNatClampNeg)) fun x39 =>
    if x32 = x39 then
    B_MText_isLike_71 N p0 p1 p2 p3 (fun l4 l5 H => B_MText_isLike_25 N p0 p1 p2 p3 n l4 l5 H) l5 1 H
    else
    B_MText_isLike_71 N p0 p1 p2 p3 (fun l4 l5 H => B_MText_isLike_25 N p0 p1 p2 p3 n l4 l5 H) l5 0 H
termination_by structural n => n
set_option maxRecDepth 20000 in
set_option maxHeartbeats 2000000 in
theorem mB_MText_isLike_25 {N : Nat} {p0 : Nat} {p1 : Int32} {p2 : Nat} {p3 : Int32} : ∀ (n : Nat) (l4 : Int32) (l5 : Int32) (H : Hp) (r : Int32 × Hp), B_MText_isLike_25 N p0 p1 p2 p3 n l4 l5 H = some r → Sa H r.2 := by
  intro n
  induction n with
  | zero => intro l4 l5 H r hF; rw [B_MText_isLike_25] at hF; cases hF
  | succ n ih =>
    intro l4 l5 H r hF
    rw [B_MText_isLike_25] at hF
    have hm := Sa.rf H
    obtain ⟨q41, hG⟩ := ck_s hF; clear hF
    obtain ⟨a42, e43, hF⟩ := rf_s hG; clear hG
    obtain ⟨n44, q45, hG⟩ := ar_s hF; clear hF
    obtain ⟨q46, hF⟩ := ck_s hG; clear hG
    obtain ⟨x47, -, hG⟩ := bnd_g hF; clear hF
    rcases ite_s hG with ⟨q_1, hF⟩ | ⟨q_1, hF⟩
    · clear hG
      obtain ⟨q49, hG⟩ := ck_s hF; clear hF
      have hr := Option.some.inj hG; subst hr
      exact hm
    · clear hG
      rcases ite_s hF with ⟨q_2, hG⟩ | ⟨q_2, hG⟩
      · clear hF
        obtain ⟨q51, hF⟩ := ck_s hG; clear hG
        have hr := Option.some.inj hF; subst hr
        exact hm
      · clear hF
        obtain ⟨a52, e53, hF⟩ := rf_s hG; clear hG
        obtain ⟨n54, q55, hG⟩ := ar_s hF; clear hF
        obtain ⟨q56, hF⟩ := ck_s hG; clear hG
        obtain ⟨x57, -, hG⟩ := bnd_g hF; clear hF
        obtain ⟨q58, hF⟩ := ck_s hG; clear hG
        obtain ⟨a59, e60, hG⟩ := rf_s hF; clear hF
        obtain ⟨n61, q62, hF⟩ := ar_s hG; clear hG
        obtain ⟨q63, hG⟩ := ck_s hF; clear hF
        obtain ⟨x64, -, hF⟩ := bnd_g hG; clear hG
        rcases ite_s hF with ⟨q_3, hG⟩ | ⟨q_3, hG⟩
        · clear hF
          exact hm.tr (mB_MText_isLike_71 ih hG)
        · clear hF
          exact hm.tr (mB_MText_isLike_71 ih hG)
set_option maxRecDepth 20000 in
set_option maxHeartbeats 2000000 in
theorem kB_MText_isLike_25 {N : Nat} {p0 : Nat} {p1 : Int32} {p2 : Nat} {p3 : Int32} : ∀ (n : Nat) (l4 : Int32) (l5 : Int32) (H : Hp) (r : Int32 × Hp), B_MText_isLike_25 N p0 p1 p2 p3 n l4 l5 H = some r → ab_V y_MText_isLike { frames := 0, cells := 0, slots := 0, locals := 0 } (po (.returned (some (.int r.1))) r.2) 0 0 0 0 25 [some (.ref p0), some (.int p1), some (.ref p2), some (.int p3), some (.int l4), some (.int l5)] [] (hpw H) := by
  intro n
  induction n with
  | zero => intro l4 l5 H r hF; rw [B_MText_isLike_25] at hF; cases hF
  | succ n ih =>
    intro l4 l5 H r hF
    rw [B_MText_isLike_25] at hF
    refine ab_iload d_MText_isLike_25 rfl ?_
    refine ab_aload_n d_MText_isLike_27 rfl rfl rfl ?_
    obtain ⟨q16, hG⟩ := ck_s hF; clear hF
    obtain ⟨a17, e18, hF⟩ := rf_s hG; clear hG
    refine hp_getR (f := 23) d_MText_isLike_28 q16 (by decide) rfl (by decide) (k8 198 rfl rfl) rfl e18 ?_
    refine ab_iload_n d_MText_isLike_31 rfl rfl ?_
    obtain ⟨n19, q20, hG⟩ := ar_s hF; clear hF
    obtain ⟨q21, hF⟩ := ck_s hG; clear hG
    refine hp_iald d_MText_isLike_32 tI q20 q21 ?_
    refine ab_topi (fun x22 ex22 => ?_)
    replace hF := bnd_s ex22 hF
    refine ab_icmp_ge (tgt := 79) d_MText_isLike_33 (by decide) (fun q23 => ?_) (fun q23 => ?_)
    · rw [if_pos q23] at hF
      refine ab_iload d_MText_isLike_79 rfl ?_
      obtain ⟨q24, hG⟩ := ck_s hF; clear hF
      exact ab_zret d_MText_isLike_81 rfl (congrArg Value.int q24) (Nat.le_refl _) (Nat.le_refl _) (by have hr := Option.some.inj hG; subst hr; exact ⟨rfl, rfl⟩)
    · rw [if_neg q23] at hF
      refine ab_iload d_MText_isLike_36 rfl ?_
      refine ab_if_eq (tgt := 79) d_MText_isLike_38 (by decide) (fun q25 => ?_) (fun q25 => ?_)
      · rw [if_pos q25] at hF
        refine ab_iload d_MText_isLike_79 rfl ?_
        obtain ⟨q26, hG⟩ := ck_s hF; clear hF
        exact ab_zret d_MText_isLike_81 rfl (congrArg Value.int q26) (Nat.le_refl _) (Nat.le_refl _) (by have hr := Option.some.inj hG; subst hr; exact ⟨rfl, rfl⟩)
      · rw [if_neg q25] at hF
        refine ab_aload_n d_MText_isLike_41 rfl rfl rfl ?_
        obtain ⟨a27, e28, hG⟩ := rf_s hF; clear hF
        refine hp_getR (f := 24) d_MText_isLike_42 q16 (by decide) rfl (by decide) (k8 201 rfl rfl) rfl e28 ?_
        refine ab_iconst (v := 4) d_MText_isLike_45 (by decide) ?_
        refine ab_iload_n d_MText_isLike_46 rfl rfl ?_
        refine ab_imul d_MText_isLike_47 ?_
        refine ab_iload d_MText_isLike_48 rfl ?_
        refine ab_iadd d_MText_isLike_50 ?_
        obtain ⟨n29, q30, hF⟩ := ar_s hG; clear hG
        obtain ⟨q31, hG⟩ := ck_s hF; clear hF
        refine hp_iald d_MText_isLike_51 tI q30 q31 ?_
        refine ab_topi (fun x32 ex32 => ?_)
        replace hG := bnd_s ex32 hG
        refine ab_aload_n d_MText_isLike_52 rfl rfl rfl ?_
        obtain ⟨q33, hF⟩ := ck_s hG; clear hG
        obtain ⟨a34, e35, hG⟩ := rf_s hF; clear hF
        refine hp_getR (f := 24) d_MText_isLike_53 q33 (by decide) rfl (by decide) (k8 201 rfl rfl) rfl e35 ?_
        refine ab_iconst (v := 4) d_MText_isLike_56 (by decide) ?_
        refine ab_iload_n d_MText_isLike_57 rfl rfl ?_
        refine ab_imul d_MText_isLike_58 ?_
        refine ab_iload d_MText_isLike_59 rfl ?_
        refine ab_iadd d_MText_isLike_61 ?_
        obtain ⟨n36, q37, hF⟩ := ar_s hG; clear hG
        obtain ⟨q38, hG⟩ := ck_s hF; clear hF
        refine hp_iald d_MText_isLike_62 tI q37 q38 ?_
        refine ab_topi (fun x39 ex39 => ?_)
        replace hG := bnd_s ex39 hG
        refine ab_icmp_ne (tgt := 70) d_MText_isLike_63 (by decide) (fun q40 => ?_) (fun q40 => ?_)
        · rw [if_neg q40] at hG
          refine ab_iconst (v := 0) d_MText_isLike_70 (by decide) ?_
          refine ab_le (lv' := [some (.ref p0), some (.int p1), some (.ref p2), some (.int p3), none, some (.int l5)]) ⟨rfl, ⟨rfl, ⟨rfl, ⟨rfl, ⟨rfl, trivial⟩⟩⟩⟩⟩ ?_
          exact kB_MText_isLike_71 (mB_MText_isLike_25 n) ih hG
        · rw [if_pos q40] at hG
          refine ab_iconst (v := 1) d_MText_isLike_66 (by decide) ?_
          refine ab_goto (tgt := 71) d_MText_isLike_67 (by decide) ?_
          refine ab_le (lv' := [some (.ref p0), some (.int p1), some (.ref p2), some (.int p3), none, some (.int l5)]) ⟨rfl, ⟨rfl, ⟨rfl, ⟨rfl, ⟨rfl, trivial⟩⟩⟩⟩⟩ ?_
          exact kB_MText_isLike_71 (mB_MText_isLike_25 n) ih hG
def B_MText_isLike_20 (N : Nat) (p0 : Nat) (p1 : Int32) (p2 : Nat) (p3 : Int32) (w0 : Int32) (H : Hp) : Option (Int32 × Hp) :=
    B_MText_isLike_25 N p0 p1 p2 p3 N w0 0 H
set_option maxRecDepth 20000 in
set_option maxHeartbeats 2000000 in
theorem mB_MText_isLike_20 {N : Nat} {p0 : Nat} {p1 : Int32} {p2 : Nat} {p3 : Int32} {w0 : Int32} {H : Hp} {r : Int32 × Hp} (hF : B_MText_isLike_20 N p0 p1 p2 p3 w0 H = some r) : Sa H r.2 := by
  unfold B_MText_isLike_20 at hF
  have hm := Sa.rf H
  exact hm.tr (mB_MText_isLike_25 N w0 0 H r hF)
set_option maxRecDepth 20000 in
set_option maxHeartbeats 2000000 in
theorem kB_MText_isLike_20 {N : Nat} {p0 : Nat} {p1 : Int32} {p2 : Nat} {p3 : Int32} {w0 : Int32} {H : Hp} {r : Int32 × Hp} (hF : B_MText_isLike_20 N p0 p1 p2 p3 w0 H = some r) : ab_V y_MText_isLike { frames := 0, cells := 0, slots := 0, locals := 0 } (po (.returned (some (.int r.1))) r.2) 0 0 0 0 20 [some (.ref p0), some (.int p1), some (.ref p2), some (.int p3), none, none] [.int w0] (hpw H) := by
  unfold B_MText_isLike_20 at hF
  refine ab_istore (lv' := [some (.ref p0), some (.int p1), some (.ref p2), some (.int p3), some (.int w0), none]) d_MText_isLike_20 (by decide) rfl ?_
  refine ab_iconst (v := 0) d_MText_isLike_22 (by decide) ?_
  refine ab_istore (lv' := [some (.ref p0), some (.int p1), some (.ref p2), some (.int p3), some (.int w0), some (.int 0)]) d_MText_isLike_23 (by decide) rfl ?_
  exact kB_MText_isLike_25 N w0 0 H r hF
def F_MText_isLike (N : Nat) (p0 : Nat) (p1 : Int32) (p2 : Nat) (p3 : Int32) (H : Hp) : Option (Int32 × Hp) :=
    ck (H.sh[p0]? = some (14, 0)) <|
    rf (H.P p0 23) fun a2 =>
    ar H 100 a2 fun n4 =>
    ck (inb p1 n4) <|
    bnd ((H.D a2 (p1).toNatClampNeg)) fun x7 =>
    ck (H.sh[p2]? = some (14, 0)) <|
    rf (H.P p2 23) fun a9 =>
    ar H 100 a9 fun n11 =>
    ck (inb p3 n11) <|
    bnd ((H.D a9 (p3).toNatClampNeg)) fun x14 =>
    if x7 = x14 then
    B_MText_isLike_20 N p0 p1 p2 p3 1 H
    else
    B_MText_isLike_20 N p0 p1 p2 p3 0 H
set_option maxRecDepth 20000 in
set_option maxHeartbeats 2000000 in
theorem m_MText_isLike {N : Nat} {p0 : Nat} {p1 : Int32} {p2 : Nat} {p3 : Int32} {H : Hp} {r : Int32 × Hp} (hF : F_MText_isLike N p0 p1 p2 p3 H = some r) : Sa H r.2 := by
  unfold F_MText_isLike at hF
  have hm := Sa.rf H
  obtain ⟨q66, hG⟩ := ck_s hF; clear hF
  obtain ⟨a67, e68, hF⟩ := rf_s hG; clear hG
  obtain ⟨n69, q70, hG⟩ := ar_s hF; clear hF
  obtain ⟨q71, hF⟩ := ck_s hG; clear hG
  obtain ⟨x72, -, hG⟩ := bnd_g hF; clear hF
  obtain ⟨q73, hF⟩ := ck_s hG; clear hG
  obtain ⟨a74, e75, hG⟩ := rf_s hF; clear hF
  obtain ⟨n76, q77, hF⟩ := ar_s hG; clear hG
  obtain ⟨q78, hG⟩ := ck_s hF; clear hF
  obtain ⟨x79, -, hF⟩ := bnd_g hG; clear hG
  rcases ite_s hF with ⟨q_4, hG⟩ | ⟨q_4, hG⟩
  · clear hF
    exact hm.tr (mB_MText_isLike_20 hG)
  · clear hF
    exact hm.tr (mB_MText_isLike_20 hG)
set_option maxRecDepth 20000 in
set_option maxHeartbeats 2000000 in
theorem k_MText_isLike {N : Nat} {p0 : Nat} {p1 : Int32} {p2 : Nat} {p3 : Int32} {H : Hp} {r : Int32 × Hp} (hF : F_MText_isLike N p0 p1 p2 p3 H = some r) : ab_M y_MText_isLike { frames := 0, cells := 0, slots := 0, locals := 0 } [.ref p0, .int p1, .ref p2, .int p3] (hpw H) (po (.returned (some (.int r.1))) r.2) := by
  unfold F_MText_isLike at hF
  refine ab_of2 (lv := [some (.ref p0), some (.int p1), some (.ref p2), some (.int p3), none, none]) 2 rfl rfl (Nat.le_of_ble_eq_true rfl) ?_
  refine ab_aload_n d_MText_isLike_0 rfl rfl rfl ?_
  obtain ⟨q1, hG⟩ := ck_s hF; clear hF
  obtain ⟨a2, e3, hF⟩ := rf_s hG; clear hG
  refine hp_getR (f := 23) d_MText_isLike_1 q1 (by decide) rfl (by decide) (k8 198 rfl rfl) rfl e3 ?_
  refine ab_iload_n d_MText_isLike_4 rfl rfl ?_
  obtain ⟨n4, q5, hG⟩ := ar_s hF; clear hF
  obtain ⟨q6, hF⟩ := ck_s hG; clear hG
  refine hp_iald d_MText_isLike_5 tI q5 q6 ?_
  refine ab_topi (fun x7 ex7 => ?_)
  replace hF := bnd_s ex7 hF
  refine ab_aload_n d_MText_isLike_6 rfl rfl rfl ?_
  obtain ⟨q8, hG⟩ := ck_s hF; clear hF
  obtain ⟨a9, e10, hF⟩ := rf_s hG; clear hG
  refine hp_getR (f := 23) d_MText_isLike_7 q8 (by decide) rfl (by decide) (k8 198 rfl rfl) rfl e10 ?_
  refine ab_iload_n d_MText_isLike_10 rfl rfl ?_
  obtain ⟨n11, q12, hG⟩ := ar_s hF; clear hF
  obtain ⟨q13, hF⟩ := ck_s hG; clear hG
  refine hp_iald d_MText_isLike_11 tI q12 q13 ?_
  refine ab_topi (fun x14 ex14 => ?_)
  replace hF := bnd_s ex14 hF
  refine ab_icmp_ne (tgt := 19) d_MText_isLike_12 (by decide) (fun q15 => ?_) (fun q15 => ?_)
  · rw [if_neg q15] at hF
    refine ab_iconst (v := 0) d_MText_isLike_19 (by decide) ?_
    exact kB_MText_isLike_20 hF
  · rw [if_pos q15] at hF
    refine ab_iconst (v := 1) d_MText_isLike_15 (by decide) ?_
    refine ab_goto (tgt := 20) d_MText_isLike_16 (by decide) ?_
    exact kB_MText_isLike_20 hF
def y_MWorld_pends : ab_Y := (⟨"WorldEngineModel$World", "pends", "(III[II)Z"⟩, prog_17_method_13_code, 7, (some FieldType.boolean), [])
theorem d_MWorld_pends_0 : decode y_MWorld_pends.2.1 0 = .ok (.aload_n 0, 1) := by decide +kernel
theorem d_MWorld_pends_1 : decode y_MWorld_pends.2.1 1 = .ok (.getfield 56, 3) := by decide +kernel
theorem d_MWorld_pends_4 : decode y_MWorld_pends.2.1 4 = .ok (.sipush 256, 3) := by decide +kernel
theorem d_MWorld_pends_7 : decode y_MWorld_pends.2.1 7 = .ok (.if_icmp .ne 5, 3) := by decide +kernel
theorem d_MWorld_pends_10 : decode y_MWorld_pends.2.1 10 = .ok (.iconst 0, 1) := by decide +kernel
theorem d_MWorld_pends_11 : decode y_MWorld_pends.2.1 11 = .ok (.ireturn, 1) := by decide +kernel
theorem d_MWorld_pends_12 : decode y_MWorld_pends.2.1 12 = .ok (.aload_n 0, 1) := by decide +kernel
theorem d_MWorld_pends_13 : decode y_MWorld_pends.2.1 13 = .ok (.getfield 25, 3) := by decide +kernel
theorem d_MWorld_pends_16 : decode y_MWorld_pends.2.1 16 = .ok (.aload_n 0, 1) := by decide +kernel
theorem d_MWorld_pends_17 : decode y_MWorld_pends.2.1 17 = .ok (.getfield 56, 3) := by decide +kernel
theorem d_MWorld_pends_20 : decode y_MWorld_pends.2.1 20 = .ok (.iload_n 1, 1) := by decide +kernel
theorem d_MWorld_pends_21 : decode y_MWorld_pends.2.1 21 = .ok (.iastore, 1) := by decide +kernel
theorem d_MWorld_pends_22 : decode y_MWorld_pends.2.1 22 = .ok (.aload_n 0, 1) := by decide +kernel
theorem d_MWorld_pends_23 : decode y_MWorld_pends.2.1 23 = .ok (.getfield 28, 3) := by decide +kernel
theorem d_MWorld_pends_26 : decode y_MWorld_pends.2.1 26 = .ok (.aload_n 0, 1) := by decide +kernel
theorem d_MWorld_pends_27 : decode y_MWorld_pends.2.1 27 = .ok (.getfield 56, 3) := by decide +kernel
theorem d_MWorld_pends_30 : decode y_MWorld_pends.2.1 30 = .ok (.iload_n 2, 1) := by decide +kernel
theorem d_MWorld_pends_31 : decode y_MWorld_pends.2.1 31 = .ok (.iastore, 1) := by decide +kernel
theorem d_MWorld_pends_32 : decode y_MWorld_pends.2.1 32 = .ok (.aload_n 0, 1) := by decide +kernel
theorem d_MWorld_pends_33 : decode y_MWorld_pends.2.1 33 = .ok (.getfield 31, 3) := by decide +kernel
theorem d_MWorld_pends_36 : decode y_MWorld_pends.2.1 36 = .ok (.aload_n 0, 1) := by decide +kernel
theorem d_MWorld_pends_37 : decode y_MWorld_pends.2.1 37 = .ok (.getfield 56, 3) := by decide +kernel
theorem d_MWorld_pends_40 : decode y_MWorld_pends.2.1 40 = .ok (.iload_n 3, 1) := by decide +kernel
theorem d_MWorld_pends_41 : decode y_MWorld_pends.2.1 41 = .ok (.iastore, 1) := by decide +kernel
theorem d_MWorld_pends_42 : decode y_MWorld_pends.2.1 42 = .ok (.iconst 0, 1) := by decide +kernel
theorem d_MWorld_pends_43 : decode y_MWorld_pends.2.1 43 = .ok (.istore 6, 2) := by decide +kernel
theorem d_MWorld_pends_45 : decode y_MWorld_pends.2.1 45 = .ok (.iload 6, 2) := by decide +kernel
theorem d_MWorld_pends_47 : decode y_MWorld_pends.2.1 47 = .ok (.iconst 4, 1) := by decide +kernel
theorem d_MWorld_pends_48 : decode y_MWorld_pends.2.1 48 = .ok (.if_icmp .ge 31, 3) := by decide +kernel
theorem d_MWorld_pends_51 : decode y_MWorld_pends.2.1 51 = .ok (.aload_n 0, 1) := by decide +kernel
theorem d_MWorld_pends_52 : decode y_MWorld_pends.2.1 52 = .ok (.getfield 34, 3) := by decide +kernel
theorem d_MWorld_pends_55 : decode y_MWorld_pends.2.1 55 = .ok (.iconst 4, 1) := by decide +kernel
theorem d_MWorld_pends_56 : decode y_MWorld_pends.2.1 56 = .ok (.aload_n 0, 1) := by decide +kernel
theorem d_MWorld_pends_57 : decode y_MWorld_pends.2.1 57 = .ok (.getfield 56, 3) := by decide +kernel
theorem d_MWorld_pends_60 : decode y_MWorld_pends.2.1 60 = .ok (.imul, 1) := by decide +kernel
theorem d_MWorld_pends_61 : decode y_MWorld_pends.2.1 61 = .ok (.iload 6, 2) := by decide +kernel
theorem d_MWorld_pends_63 : decode y_MWorld_pends.2.1 63 = .ok (.iadd, 1) := by decide +kernel
theorem d_MWorld_pends_64 : decode y_MWorld_pends.2.1 64 = .ok (.aload 4, 2) := by decide +kernel
theorem d_MWorld_pends_66 : decode y_MWorld_pends.2.1 66 = .ok (.iload 5, 2) := by decide +kernel
theorem d_MWorld_pends_68 : decode y_MWorld_pends.2.1 68 = .ok (.iload 6, 2) := by decide +kernel
theorem d_MWorld_pends_70 : decode y_MWorld_pends.2.1 70 = .ok (.iadd, 1) := by decide +kernel
theorem d_MWorld_pends_71 : decode y_MWorld_pends.2.1 71 = .ok (.iaload, 1) := by decide +kernel
theorem d_MWorld_pends_72 : decode y_MWorld_pends.2.1 72 = .ok (.iastore, 1) := by decide +kernel
theorem d_MWorld_pends_73 : decode y_MWorld_pends.2.1 73 = .ok (.iinc 6 1, 3) := by decide +kernel
theorem d_MWorld_pends_76 : decode y_MWorld_pends.2.1 76 = .ok (.goto (-31), 3) := by decide +kernel
theorem d_MWorld_pends_79 : decode y_MWorld_pends.2.1 79 = .ok (.aload_n 0, 1) := by decide +kernel
theorem d_MWorld_pends_80 : decode y_MWorld_pends.2.1 80 = .ok (.dup, 1) := by decide +kernel
theorem d_MWorld_pends_81 : decode y_MWorld_pends.2.1 81 = .ok (.getfield 56, 3) := by decide +kernel
theorem d_MWorld_pends_84 : decode y_MWorld_pends.2.1 84 = .ok (.iconst 1, 1) := by decide +kernel
theorem d_MWorld_pends_85 : decode y_MWorld_pends.2.1 85 = .ok (.iadd, 1) := by decide +kernel
theorem d_MWorld_pends_86 : decode y_MWorld_pends.2.1 86 = .ok (.putfield 56, 3) := by decide +kernel
theorem d_MWorld_pends_89 : decode y_MWorld_pends.2.1 89 = .ok (.iconst 1, 1) := by decide +kernel
theorem d_MWorld_pends_90 : decode y_MWorld_pends.2.1 90 = .ok (.ireturn, 1) := by decide +kernel
theorem s_MWorld_pends : ab_Stat y_MWorld_pends 5 := ⟨(k11 192 rfl rfl), (k1 21 rfl rfl), ⟨by decide, by decide⟩, by decide +kernel⟩
theorem i_MWorld_pends : Cond.instanceMethod y_MWorld_pends.1 ∈ ab_T := (k11 190 rfl rfl)
theorem v_MWorld_pends : Cond.selects "WorldEngineModel$World" y_MWorld_pends.1 y_MWorld_pends.1 ∈ ab_T := (k11 191 rfl rfl)
def B_MWorld_pends_45 (N : Nat) (p0 : Nat) (p1 : Int32) (p2 : Int32) (p3 : Int32) (p4 : Nat) (p5 : Int32) : Nat → Int32 → Hp → Option (Int32 × Hp)
  | 0, _, _ => none
  | n + 1, l6, H =>
    if (4 : Int32) ≤ l6 then
    ck (H.sh[p0]? = some (13, 0)) <|
    bnd ((H.D p0 8)) fun x27 =>
    bnd (H.sD p0 8 (x27 + (1 : Int32))) fun H28 =>
    some (1, H28)
    else
    ck (H.sh[p0]? = some (13, 0)) <|
    rf (H.P p0 12) fun a30 =>
    bnd ((H.D p0 8)) fun x32 =>
    ar H 100 p4 fun n33 =>
    ck (inb (p5 + l6) n33) <|
    bnd ((H.D p4 ((p5 + l6)).toNatClampNeg)) fun x36 =>
    ar H 100 a30 fun n37 =>
    ck (inb (((4 : Int32) * x32) + l6) n37) <|
    bnd (H.sD a30 ((((4 : Int32) * x32) + l6)).toNatClampNeg x36) fun H40 =>
    B_MWorld_pends_45 N p0 p1 p2 p3 p4 p5 n (l6 + 1) H40
termination_by structural n => n
set_option maxRecDepth 20000 in
set_option maxHeartbeats 2000000 in
theorem mB_MWorld_pends_45 {N : Nat} {p0 : Nat} {p1 : Int32} {p2 : Int32} {p3 : Int32} {p4 : Nat} {p5 : Int32} : ∀ (n : Nat) (l6 : Int32) (H : Hp) (r : Int32 × Hp), B_MWorld_pends_45 N p0 p1 p2 p3 p4 p5 n l6 H = some r → Sa H r.2 := by
  intro n
  induction n with
  | zero => intro l6 H r hF; rw [B_MWorld_pends_45] at hF; cases hF
  | succ n ih =>
    intro l6 H r hF
    rw [B_MWorld_pends_45] at hF
    have hm := Sa.rf H
    rcases ite_s hF with ⟨q_6, hG⟩ | ⟨q_6, hG⟩
    · clear hF
      obtain ⟨q42, hF⟩ := ck_s hG; clear hG
      obtain ⟨x43, -, hG⟩ := bnd_g hF; clear hF
      obtain ⟨H44, eH44, hF⟩ := bnd_g hG; clear hG
      replace hm : Sa H H44 := by rw [eH44]; exact hm
      have hr := Option.some.inj hF; subst hr
      exact hm
    · clear hF
      obtain ⟨q45, hF⟩ := ck_s hG; clear hG
      obtain ⟨a46, e47, hG⟩ := rf_s hF; clear hF
      obtain ⟨x48, -, hF⟩ := bnd_g hG; clear hG
      obtain ⟨n49, q50, hG⟩ := ar_s hF; clear hF
      obtain ⟨q51, hF⟩ := ck_s hG; clear hG
      obtain ⟨x52, -, hG⟩ := bnd_g hF; clear hF
      obtain ⟨n53, q54, hF⟩ := ar_s hG; clear hG
      obtain ⟨q55, hG⟩ := ck_s hF; clear hF
      obtain ⟨H56, eH56, hF⟩ := bnd_g hG; clear hG
      replace hm : Sa H H56 := by rw [eH56]; exact hm
      exact hm.tr (ih (l6 + 1) H56 r hF)
set_option maxRecDepth 20000 in
set_option maxHeartbeats 2000000 in
theorem kB_MWorld_pends_45 {N : Nat} {p0 : Nat} {p1 : Int32} {p2 : Int32} {p3 : Int32} {p4 : Nat} {p5 : Int32} : ∀ (n : Nat) (l6 : Int32) (H : Hp) (r : Int32 × Hp), B_MWorld_pends_45 N p0 p1 p2 p3 p4 p5 n l6 H = some r → ab_V y_MWorld_pends { frames := 0, cells := 0, slots := 0, locals := 0 } (po (.returned (some (.int r.1))) r.2) 0 0 0 0 45 [some (.ref p0), some (.int p1), some (.int p2), some (.int p3), some (.ref p4), some (.int p5), some (.int l6)] [] (hpw H) := by
  intro n
  induction n with
  | zero => intro l6 H r hF; rw [B_MWorld_pends_45] at hF; cases hF
  | succ n ih =>
    intro l6 H r hF
    rw [B_MWorld_pends_45] at hF
    refine ab_iload d_MWorld_pends_45 rfl ?_
    refine ab_iconst (v := 4) d_MWorld_pends_47 (by decide) ?_
    refine ab_icmp_ge (tgt := 79) d_MWorld_pends_48 (by decide) (fun q25 => ?_) (fun q25 => ?_)
    · rw [if_pos q25] at hF
      refine ab_aload_n d_MWorld_pends_79 rfl rfl rfl ?_
      refine ab_dup d_MWorld_pends_80 rfl ?_
      obtain ⟨q26, hG⟩ := ck_s hF; clear hF
      refine hp_getI (f := 8) d_MWorld_pends_81 q26 (by decide) rfl (by decide) (k9 111 rfl rfl) rfl ?_
      refine ab_topi (fun x27 ex27 => ?_)
      replace hG := bnd_s ex27 hG
      refine ab_iconst (v := 1) d_MWorld_pends_84 (by decide) ?_
      refine ab_iadd d_MWorld_pends_85 ?_
      refine hp_putI (v := x27 + (1 : Int32)) (f := 8) d_MWorld_pends_86 q26 (by decide) rfl (by decide) (k9 111 rfl rfl) rfl rfl (fun _ => rfl) (fun _ => rfl) rfl ?_
      refine hp_gen (fun H28 eH28 => ?_)
      replace hG := bnd_s eH28 hG
      have s_4 : Sa H H28 := by rw [eH28]; exact Sa.rf _
      refine ab_iconst (v := 1) d_MWorld_pends_89 (by decide) ?_
      exact ab_zret d_MWorld_pends_90 rfl rfl (Nat.le_refl _) (Nat.le_refl _) (by have hr := Option.some.inj hG; subst hr; exact ⟨rfl, rfl⟩)
    · rw [if_neg q25] at hF
      refine ab_aload_n d_MWorld_pends_51 rfl rfl rfl ?_
      obtain ⟨q29, hG⟩ := ck_s hF; clear hF
      obtain ⟨a30, e31, hF⟩ := rf_s hG; clear hG
      refine hp_getR (f := 12) d_MWorld_pends_52 q29 (by decide) rfl (by decide) (k9 123 rfl rfl) rfl e31 ?_
      refine ab_iconst (v := 4) d_MWorld_pends_55 (by decide) ?_
      refine ab_aload_n d_MWorld_pends_56 rfl rfl rfl ?_
      refine hp_getI (f := 8) d_MWorld_pends_57 q29 (by decide) rfl (by decide) (k9 111 rfl rfl) rfl ?_
      refine ab_topi (fun x32 ex32 => ?_)
      replace hF := bnd_s ex32 hF
      refine ab_imul d_MWorld_pends_60 ?_
      refine ab_iload d_MWorld_pends_61 rfl ?_
      refine ab_iadd d_MWorld_pends_63 ?_
      refine ab_aload d_MWorld_pends_64 rfl rfl ?_
      refine ab_iload d_MWorld_pends_66 rfl ?_
      refine ab_iload d_MWorld_pends_68 rfl ?_
      refine ab_iadd d_MWorld_pends_70 ?_
      obtain ⟨n33, q34, hG⟩ := ar_s hF; clear hF
      obtain ⟨q35, hF⟩ := ck_s hG; clear hG
      refine hp_iald d_MWorld_pends_71 tI q34 q35 ?_
      refine ab_topi (fun x36 ex36 => ?_)
      replace hF := bnd_s ex36 hF
      obtain ⟨n37, q38, hG⟩ := ar_s hF; clear hF
      obtain ⟨q39, hF⟩ := ck_s hG; clear hG
      refine hp_iast d_MWorld_pends_72 tI q38 q39 ?_
      refine hp_gen (fun H40 eH40 => ?_)
      replace hF := bnd_s eH40 hF
      have s_5 : Sa H H40 := by rw [eH40]; exact Sa.rf _
      refine ab_iinc (v := l6 + 1) (lv' := [some (.ref p0), some (.int p1), some (.int p2), some (.int p3), some (.ref p4), some (.int p5), some (.int (l6 + 1))]) d_MWorld_pends_73 rfl rfl (by decide) rfl ?_
      refine ab_goto (tgt := 45) d_MWorld_pends_76 (by decide) ?_
      exact ih (l6 + 1) H40 r hF
def F_MWorld_pends (N : Nat) (p0 : Nat) (p1 : Int32) (p2 : Int32) (p3 : Int32) (p4 : Nat) (p5 : Int32) (H : Hp) : Option (Int32 × Hp) :=
    ck (H.sh[p0]? = some (13, 0)) <|
    bnd ((H.D p0 8)) fun x2 =>
    if x2 = (256 : Int32) then
    some (0, H)
    else
    rf (H.P p0 9) fun a4 =>
    bnd ((H.D p0 8)) fun x6 =>
    ar H 100 a4 fun n7 =>
    ck (inb x6 n7) <|
    bnd (H.sD a4 (x6).toNatClampNeg p1) fun H10 =>
    rf (H10.P p0 10) fun a11 =>
    bnd ((H10.D p0 8)) fun x13 =>
    ar H10 100 a11 fun n14 =>
    ck (inb x13 n14) <|
    bnd (H10.sD a11 (x13).toNatClampNeg p2) fun H17 =>
    rf (H17.P p0 11) fun a18 =>
    bnd ((H17.D p0 8)) fun x20 =>
    ar H17 100 a18 fun n21 =>
    ck (inb x20 n21) <|
    bnd (H17.sD a18 (x20).toNatClampNeg p3) fun H24 =>
    B_MWorld_pends_45 N p0 p1 p2 p3 p4 p5 N 0 H24
set_option maxRecDepth 20000 in
set_option maxHeartbeats 2000000 in
theorem m_MWorld_pends {N : Nat} {p0 : Nat} {p1 : Int32} {p2 : Int32} {p3 : Int32} {p4 : Nat} {p5 : Int32} {H : Hp} {r : Int32 × Hp} (hF : F_MWorld_pends N p0 p1 p2 p3 p4 p5 H = some r) : Sa H r.2 := by
  unfold F_MWorld_pends at hF
  have hm := Sa.rf H
  obtain ⟨q57, hG⟩ := ck_s hF; clear hF
  obtain ⟨x58, -, hF⟩ := bnd_g hG; clear hG
  rcases ite_s hF with ⟨q_9, hG⟩ | ⟨q_9, hG⟩
  · clear hF
    have hr := Option.some.inj hG; subst hr
    exact hm
  · clear hF
    obtain ⟨a60, e61, hF⟩ := rf_s hG; clear hG
    obtain ⟨x62, -, hG⟩ := bnd_g hF; clear hF
    obtain ⟨n63, q64, hF⟩ := ar_s hG; clear hG
    obtain ⟨q65, hG⟩ := ck_s hF; clear hF
    obtain ⟨H66, eH66, hF⟩ := bnd_g hG; clear hG
    replace hm : Sa H H66 := by rw [eH66]; exact hm
    obtain ⟨a67, e68, hG⟩ := rf_s hF; clear hF
    obtain ⟨x69, -, hF⟩ := bnd_g hG; clear hG
    obtain ⟨n70, q71, hG⟩ := ar_s hF; clear hF
    obtain ⟨q72, hF⟩ := ck_s hG; clear hG
    obtain ⟨H73, eH73, hG⟩ := bnd_g hF; clear hF
    replace hm : Sa H H73 := by rw [eH73]; exact hm
    obtain ⟨a74, e75, hF⟩ := rf_s hG; clear hG
    obtain ⟨x76, -, hG⟩ := bnd_g hF; clear hF
    obtain ⟨n77, q78, hF⟩ := ar_s hG; clear hG
    obtain ⟨q79, hG⟩ := ck_s hF; clear hF
    obtain ⟨H80, eH80, hF⟩ := bnd_g hG; clear hG
    replace hm : Sa H H80 := by rw [eH80]; exact hm
    exact hm.tr (mB_MWorld_pends_45 N 0 H80 r hF)
set_option maxRecDepth 20000 in
set_option maxHeartbeats 2000000 in
theorem k_MWorld_pends {N : Nat} {p0 : Nat} {p1 : Int32} {p2 : Int32} {p3 : Int32} {p4 : Nat} {p5 : Int32} {H : Hp} {r : Int32 × Hp} (hF : F_MWorld_pends N p0 p1 p2 p3 p4 p5 H = some r) : ab_M y_MWorld_pends { frames := 0, cells := 0, slots := 0, locals := 0 } [.ref p0, .int p1, .int p2, .int p3, .ref p4, .int p5] (hpw H) (po (.returned (some (.int r.1))) r.2) := by
  unfold F_MWorld_pends at hF
  refine ab_of2 (lv := [some (.ref p0), some (.int p1), some (.int p2), some (.int p3), some (.ref p4), some (.int p5), none]) 1 rfl rfl (Nat.le_of_ble_eq_true rfl) ?_
  refine ab_aload_n d_MWorld_pends_0 rfl rfl rfl ?_
  obtain ⟨q1, hG⟩ := ck_s hF; clear hF
  refine hp_getI (f := 8) d_MWorld_pends_1 q1 (by decide) rfl (by decide) (k9 111 rfl rfl) rfl ?_
  refine ab_topi (fun x2 ex2 => ?_)
  replace hG := bnd_s ex2 hG
  refine ab_sipush (v := 256) d_MWorld_pends_4 (by decide) ?_
  refine ab_icmp_ne (tgt := 12) d_MWorld_pends_7 (by decide) (fun q3 => ?_) (fun q3 => ?_)
  · rw [if_neg q3] at hG
    refine ab_aload_n d_MWorld_pends_12 rfl rfl rfl ?_
    obtain ⟨a4, e5, hF⟩ := rf_s hG; clear hG
    refine hp_getR (f := 9) d_MWorld_pends_13 q1 (by decide) rfl (by decide) (k9 114 rfl rfl) rfl e5 ?_
    refine ab_aload_n d_MWorld_pends_16 rfl rfl rfl ?_
    refine hp_getI (f := 8) d_MWorld_pends_17 q1 (by decide) rfl (by decide) (k9 111 rfl rfl) rfl ?_
    refine ab_topi (fun x6 ex6 => ?_)
    replace hF := bnd_s ex6 hF
    refine ab_iload_n d_MWorld_pends_20 rfl rfl ?_
    obtain ⟨n7, q8, hG⟩ := ar_s hF; clear hF
    obtain ⟨q9, hF⟩ := ck_s hG; clear hG
    refine hp_iast d_MWorld_pends_21 tI q8 q9 ?_
    refine hp_gen (fun H10 eH10 => ?_)
    replace hF := bnd_s eH10 hF
    have s_1 : Sa H H10 := by rw [eH10]; exact Sa.rf _
    refine ab_aload_n d_MWorld_pends_22 rfl rfl rfl ?_
    obtain ⟨a11, e12, hG⟩ := rf_s hF; clear hF
    refine hp_getR (f := 10) d_MWorld_pends_23 (by rw [(s_1).1]; exact q1) (by decide) rfl (by decide) (k9 117 rfl rfl) rfl e12 ?_
    refine ab_aload_n d_MWorld_pends_26 rfl rfl rfl ?_
    refine hp_getI (f := 8) d_MWorld_pends_27 (by rw [(s_1).1]; exact q1) (by decide) rfl (by decide) (k9 111 rfl rfl) rfl ?_
    refine ab_topi (fun x13 ex13 => ?_)
    replace hG := bnd_s ex13 hG
    refine ab_iload_n d_MWorld_pends_30 rfl rfl ?_
    obtain ⟨n14, q15, hF⟩ := ar_s hG; clear hG
    rw [(s_1).1] at q15
    obtain ⟨q16, hG⟩ := ck_s hF; clear hF
    refine hp_iast d_MWorld_pends_31 tI (by rw [(s_1).1]; exact q15) q16 ?_
    refine hp_gen (fun H17 eH17 => ?_)
    replace hG := bnd_s eH17 hG
    have s_2 : Sa H H17 := by rw [eH17]; exact s_1
    refine ab_aload_n d_MWorld_pends_32 rfl rfl rfl ?_
    obtain ⟨a18, e19, hF⟩ := rf_s hG; clear hG
    refine hp_getR (f := 11) d_MWorld_pends_33 (by rw [(s_2).1]; exact q1) (by decide) rfl (by decide) (k9 120 rfl rfl) rfl e19 ?_
    refine ab_aload_n d_MWorld_pends_36 rfl rfl rfl ?_
    refine hp_getI (f := 8) d_MWorld_pends_37 (by rw [(s_2).1]; exact q1) (by decide) rfl (by decide) (k9 111 rfl rfl) rfl ?_
    refine ab_topi (fun x20 ex20 => ?_)
    replace hF := bnd_s ex20 hF
    refine ab_iload_n d_MWorld_pends_40 rfl rfl ?_
    obtain ⟨n21, q22, hG⟩ := ar_s hF; clear hF
    rw [(s_2).1] at q22
    obtain ⟨q23, hF⟩ := ck_s hG; clear hG
    refine hp_iast d_MWorld_pends_41 tI (by rw [(s_2).1]; exact q22) q23 ?_
    refine hp_gen (fun H24 eH24 => ?_)
    replace hF := bnd_s eH24 hF
    have s_3 : Sa H H24 := by rw [eH24]; exact s_2
    refine ab_iconst (v := 0) d_MWorld_pends_42 (by decide) ?_
    refine ab_istore (lv' := [some (.ref p0), some (.int p1), some (.int p2), some (.int p3), some (.ref p4), some (.int p5), some (.int 0)]) d_MWorld_pends_43 (by decide) rfl ?_
    exact kB_MWorld_pends_45 N 0 H24 r hF
  · rw [if_pos q3] at hG
    refine ab_iconst (v := 0) d_MWorld_pends_10 (by decide) ?_
    exact ab_zret d_MWorld_pends_11 rfl rfl (Nat.le_refl _) (Nat.le_refl _) (by have hr := Option.some.inj hG; subst hr; exact ⟨rfl, rfl⟩)
