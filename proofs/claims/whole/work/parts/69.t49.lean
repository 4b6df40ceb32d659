def y_M_held : ab_Y := (⟨"WorldEngineModel", "held", "(IJ)I"⟩, prog_14_method_4_code, 3, (some FieldType.int), [])
theorem d_M_held_0 : decode y_M_held.2.1 0 = .ok (.iload_n 0, 1) := by decide +kernel
theorem d_M_held_1 : decode y_M_held.2.1 1 = .ok (.iconst 1, 1) := by decide +kernel
theorem d_M_held_2 : decode y_M_held.2.1 2 = .ok (.if_icmp .ne 34, 3) := by decide +kernel
theorem d_M_held_5 : decode y_M_held.2.1 5 = .ok (.lload_n 1, 1) := by decide +kernel
theorem d_M_held_6 : decode y_M_held.2.1 6 = .ok (.ldc2_w 86, 3) := by decide +kernel
theorem d_M_held_9 : decode y_M_held.2.1 9 = .ok (.lcmp, 1) := by decide +kernel
theorem d_M_held_10 : decode y_M_held.2.1 10 = .ok (.ifCond .ge 9, 3) := by decide +kernel
theorem d_M_held_13 : decode y_M_held.2.1 13 = .ok (.ldc2_w 86, 3) := by decide +kernel
theorem d_M_held_16 : decode y_M_held.2.1 16 = .ok (.goto 18, 3) := by decide +kernel
theorem d_M_held_19 : decode y_M_held.2.1 19 = .ok (.lload_n 1, 1) := by decide +kernel
theorem d_M_held_20 : decode y_M_held.2.1 20 = .ok (.ldc2_w 88, 3) := by decide +kernel
theorem d_M_held_23 : decode y_M_held.2.1 23 = .ok (.lcmp, 1) := by decide +kernel
theorem d_M_held_24 : decode y_M_held.2.1 24 = .ok (.ifCond .le 9, 3) := by decide +kernel
theorem d_M_held_27 : decode y_M_held.2.1 27 = .ok (.ldc2_w 88, 3) := by decide +kernel
theorem d_M_held_30 : decode y_M_held.2.1 30 = .ok (.goto 4, 3) := by decide +kernel
theorem d_M_held_33 : decode y_M_held.2.1 33 = .ok (.lload_n 1, 1) := by decide +kernel
theorem d_M_held_34 : decode y_M_held.2.1 34 = .ok (.l2i, 1) := by decide +kernel
theorem d_M_held_35 : decode y_M_held.2.1 35 = .ok (.ireturn, 1) := by decide +kernel
theorem d_M_held_36 : decode y_M_held.2.1 36 = .ok (.iload_n 0, 1) := by decide +kernel
theorem d_M_held_37 : decode y_M_held.2.1 37 = .ok (.iconst 2, 1) := by decide +kernel
theorem d_M_held_38 : decode y_M_held.2.1 38 = .ok (.if_icmp .ne 34, 3) := by decide +kernel
theorem d_M_held_41 : decode y_M_held.2.1 41 = .ok (.lload_n 1, 1) := by decide +kernel
theorem d_M_held_42 : decode y_M_held.2.1 42 = .ok (.ldc2_w 92, 3) := by decide +kernel
theorem d_M_held_45 : decode y_M_held.2.1 45 = .ok (.lcmp, 1) := by decide +kernel
theorem d_M_held_46 : decode y_M_held.2.1 46 = .ok (.ifCond .ge 9, 3) := by decide +kernel
theorem d_M_held_49 : decode y_M_held.2.1 49 = .ok (.ldc2_w 92, 3) := by decide +kernel
theorem d_M_held_52 : decode y_M_held.2.1 52 = .ok (.goto 18, 3) := by decide +kernel
theorem d_M_held_55 : decode y_M_held.2.1 55 = .ok (.lload_n 1, 1) := by decide +kernel
theorem d_M_held_56 : decode y_M_held.2.1 56 = .ok (.ldc2_w 94, 3) := by decide +kernel
theorem d_M_held_59 : decode y_M_held.2.1 59 = .ok (.lcmp, 1) := by decide +kernel
theorem d_M_held_60 : decode y_M_held.2.1 60 = .ok (.ifCond .le 9, 3) := by decide +kernel
theorem d_M_held_63 : decode y_M_held.2.1 63 = .ok (.ldc2_w 94, 3) := by decide +kernel
theorem d_M_held_66 : decode y_M_held.2.1 66 = .ok (.goto 4, 3) := by decide +kernel
theorem d_M_held_69 : decode y_M_held.2.1 69 = .ok (.lload_n 1, 1) := by decide +kernel
theorem d_M_held_70 : decode y_M_held.2.1 70 = .ok (.l2i, 1) := by decide +kernel
theorem d_M_held_71 : decode y_M_held.2.1 71 = .ok (.ireturn, 1) := by decide +kernel
theorem d_M_held_72 : decode y_M_held.2.1 72 = .ok (.lload_n 1, 1) := by decide +kernel
theorem d_M_held_73 : decode y_M_held.2.1 73 = .ok (.l2i, 1) := by decide +kernel
theorem d_M_held_74 : decode y_M_held.2.1 74 = .ok (.ireturn, 1) := by decide +kernel
theorem s_M_held : ab_Stat y_M_held 2 := ⟨(k11 6 rfl rfl), (k1 19 rfl rfl), ⟨by decide, by decide⟩, by decide +kernel⟩
theorem t_M_held : Cond.static y_M_held.1 ∈ ab_T := (k11 5 rfl rfl)
def F_M_held (N : Nat) (p0 : Int32) (p1 : Int64) (H : Hp) : Option (Int32 × Hp) :=
    if p0 = (1 : Int32) then
    if (0 : Int32) ≤ (lg_cmp p1 ((-128) : Int64)) then
    if (lg_cmp p1 (127 : Int64)) ≤ (0 : Int32) then
    some ((p1 : Int64).toInt32, H)
    else
    some ((127 : Int64).toInt32, H)
    else
    some (((-128) : Int64).toInt32, H)
    else
    if p0 = (2 : Int32) then
    if (0 : Int32) ≤ (lg_cmp p1 ((-2147483648) : Int64)) then
    if (lg_cmp p1 (2147483647 : Int64)) ≤ (0 : Int32) then
    some ((p1 : Int64).toInt32, H)
    else
    some ((2147483647 : Int64).toInt32, H)
    else
    some (((-2147483648) : Int64).toInt32, H)
    else
    some ((p1 : Int64).toInt32, H)
set_option maxRecDepth 20000 in
set_option maxHeartbeats 2000000 in
theorem m_M_held {N : Nat} {p0 : Int32} {p1 : Int64} {H : Hp} {r : Int32 × Hp} (hF : F_M_held N p0 p1 H = some r) : Sa H r.2 := by
  unfold F_M_held at hF
  have hm := Sa.rf H
  rcases ite_s hF with ⟨q_1, hG⟩ | ⟨q_1, hG⟩
  · clear hF
    rcases ite_s hG with ⟨q_2, hF⟩ | ⟨q_2, hF⟩
    · clear hG
      rcases ite_s hF with ⟨q_3, hG⟩ | ⟨q_3, hG⟩
      · clear hF
        have hr := Option.some.inj hG; subst hr
        exact hm
      · clear hF
        have hr := Option.some.inj hG; subst hr
        exact hm
    · clear hG
      have hr := Option.some.inj hF; subst hr
      exact hm
  · clear hF
    rcases ite_s hG with ⟨q_4, hF⟩ | ⟨q_4, hF⟩
    · clear hG
      rcases ite_s hF with ⟨q_5, hG⟩ | ⟨q_5, hG⟩
      · clear hF
        rcases ite_s hG with ⟨q_6, hF⟩ | ⟨q_6, hF⟩
        · clear hG
          have hr := Option.some.inj hF; subst hr
          exact hm
        · clear hG
          have hr := Option.some.inj hF; subst hr
          exact hm
      · clear hF
        have hr := Option.some.inj hG; subst hr
        exact hm
    · clear hG
      have hr := Option.some.inj hF; subst hr
      exact hm
set_option maxRecDepth 20000 in
set_option maxHeartbeats 2000000 in
theorem k_M_held {N : Nat} {p0 : Int32} {p1 : Int64} {H : Hp} {r : Int32 × Hp} (hF : F_M_held N p0 p1 H = some r) : ab_M y_M_held { frames := 0, cells := 0, slots := 0, locals := 0 } [.int p0, .long p1] (hpw H) (po (.returned (some (.int r.1))) r.2) := by
  unfold F_M_held at hF
  refine ab_of2 (lv := [some (.int p0), some (.long p1), none]) 0 rfl rfl (Nat.le_of_ble_eq_true rfl) ?_
  refine ab_iload_n d_M_held_0 rfl rfl ?_
  refine ab_iconst (v := 1) d_M_held_1 (by decide) ?_
  refine ab_icmp_ne (tgt := 36) d_M_held_2 (by decide) (fun q1 => ?_) (fun q1 => ?_)
  · rw [if_neg q1] at hF
    refine ab_iload_n d_M_held_36 rfl rfl ?_
    refine ab_iconst (v := 2) d_M_held_37 (by decide) ?_
    refine ab_icmp_ne (tgt := 72) d_M_held_38 (by decide) (fun q2 => ?_) (fun q2 => ?_)
    · rw [if_neg q2] at hF
      refine ab_lload_n d_M_held_72 rfl rfl ?_
      refine ab_l2i d_M_held_73 ?_
      exact ab_iret d_M_held_74 rfl (Nat.le_refl _) (Nat.le_refl _) (by have hr := Option.some.inj hF; subst hr; exact ⟨rfl, rfl⟩)
    · rw [if_pos q2] at hF
      refine ab_lload_n d_M_held_41 rfl rfl ?_
      refine ab_ldc2 d_M_held_42 (k11 9 rfl rfl) ?_
      refine ab_lcmp d_M_held_45 ?_
      refine ab_if_ge (tgt := 55) d_M_held_46 (by decide) (fun q3 => ?_) (fun q3 => ?_)
      · rw [if_pos q3] at hF
        refine ab_lload_n d_M_held_55 rfl rfl ?_
        refine ab_ldc2 d_M_held_56 (k11 10 rfl rfl) ?_
        refine ab_lcmp d_M_held_59 ?_
        refine ab_if_le (tgt := 69) d_M_held_60 (by decide) (fun q4 => ?_) (fun q4 => ?_)
        · rw [if_pos q4] at hF
          refine ab_lload_n d_M_held_69 rfl rfl ?_
          refine ab_l2i d_M_held_70 ?_
          exact ab_iret d_M_held_71 rfl (Nat.le_refl _) (Nat.le_refl _) (by have hr := Option.some.inj hF; subst hr; exact ⟨rfl, rfl⟩)
        · rw [if_neg q4] at hF
          refine ab_ldc2 d_M_held_63 (k11 10 rfl rfl) ?_
          refine ab_goto (tgt := 70) d_M_held_66 (by decide) ?_
          refine ab_l2i d_M_held_70 ?_
          exact ab_iret d_M_held_71 rfl (Nat.le_refl _) (Nat.le_refl _) (by have hr := Option.some.inj hF; subst hr; exact ⟨rfl, rfl⟩)
      · rw [if_neg q3] at hF
        refine ab_ldc2 d_M_held_49 (k11 9 rfl rfl) ?_
        refine ab_goto (tgt := 70) d_M_held_52 (by decide) ?_
        refine ab_l2i d_M_held_70 ?_
        exact ab_iret d_M_held_71 rfl (Nat.le_refl _) (Nat.le_refl _) (by have hr := Option.some.inj hF; subst hr; exact ⟨rfl, rfl⟩)
  · rw [if_pos q1] at hF
    refine ab_lload_n d_M_held_5 rfl rfl ?_
    refine ab_ldc2 d_M_held_6 (k11 7 rfl rfl) ?_
    refine ab_lcmp d_M_held_9 ?_
    refine ab_if_ge (tgt := 19) d_M_held_10 (by decide) (fun q5 => ?_) (fun q5 => ?_)
    · rw [if_pos q5] at hF
      refine ab_lload_n d_M_held_19 rfl rfl ?_
      refine ab_ldc2 d_M_held_20 (k11 8 rfl rfl) ?_
      refine ab_lcmp d_M_held_23 ?_
      refine ab_if_le (tgt := 33) d_M_held_24 (by decide) (fun q6 => ?_) (fun q6 => ?_)
      · rw [if_pos q6] at hF
        refine ab_lload_n d_M_held_33 rfl rfl ?_
        refine ab_l2i d_M_held_34 ?_
        exact ab_iret d_M_held_35 rfl (Nat.le_refl _) (Nat.le_refl _) (by have hr := Option.some.inj hF; subst hr; exact ⟨rfl, rfl⟩)
      · rw [if_neg q6] at hF
        refine ab_ldc2 d_M_held_27 (k11 8 rfl rfl) ?_
        refine ab_goto (tgt := 34) d_M_held_30 (by decide) ?_
        refine ab_l2i d_M_held_34 ?_
        exact ab_iret d_M_held_35 rfl (Nat.le_refl _) (Nat.le_refl _) (by have hr := Option.some.inj hF; subst hr; exact ⟨rfl, rfl⟩)
    · rw [if_neg q5] at hF
      refine ab_ldc2 d_M_held_13 (k11 7 rfl rfl) ?_
      refine ab_goto (tgt := 34) d_M_held_16 (by decide) ?_
      refine ab_l2i d_M_held_34 ?_
      exact ab_iret d_M_held_35 rfl (Nat.le_refl _) (Nat.le_refl _) (by have hr := Option.some.inj hF; subst hr; exact ⟨rfl, rfl⟩)
def y_MText_constant : ab_Y := (⟨"WorldEngineModel$Text", "constant", "(I)I"⟩, prog_16_method_33_code, 9, (some FieldType.int), [])
theorem d_MText_constant_0 : decode y_MText_constant.2.1 0 = .ok (.aload_n 0, 1) := by decide +kernel
theorem d_MText_constant_1 : decode y_MText_constant.2.1 1 = .ok (.getfield 191, 3) := by decide +kernel
theorem d_MText_constant_4 : decode y_MText_constant.2.1 4 = .ok (.istore_n 2, 1) := by decide +kernel
theorem d_MText_constant_5 : decode y_MText_constant.2.1 5 = .ok (.aload_n 0, 1) := by decide +kernel
theorem d_MText_constant_6 : decode y_MText_constant.2.1 6 = .ok (.bipush 45, 2) := by decide +kernel
theorem d_MText_constant_8 : decode y_MText_constant.2.1 8 = .ok (.invokevirtual 197, 3) := by decide +kernel
theorem d_MText_constant_11 : decode y_MText_constant.2.1 11 = .ok (.istore_n 3, 1) := by decide +kernel
theorem d_MText_constant_12 : decode y_MText_constant.2.1 12 = .ok (.aload_n 0, 1) := by decide +kernel
theorem d_MText_constant_13 : decode y_MText_constant.2.1 13 = .ok (.getfield 191, 3) := by decide +kernel
theorem d_MText_constant_16 : decode y_MText_constant.2.1 16 = .ok (.istore 4, 2) := by decide +kernel
theorem d_MText_constant_18 : decode y_MText_constant.2.1 18 = .ok (.aload_n 0, 1) := by decide +kernel
theorem d_MText_constant_19 : decode y_MText_constant.2.1 19 = .ok (.iconst 2, 1) := by decide +kernel
theorem d_MText_constant_20 : decode y_MText_constant.2.1 20 = .ok (.invokevirtual 194, 3) := by decide +kernel
theorem d_MText_constant_23 : decode y_MText_constant.2.1 23 = .ok (.ifCond .ne 11, 3) := by decide +kernel
theorem d_MText_constant_26 : decode y_MText_constant.2.1 26 = .ok (.aload_n 0, 1) := by decide +kernel
theorem d_MText_constant_27 : decode y_MText_constant.2.1 27 = .ok (.iconst 3, 1) := by decide +kernel
theorem d_MText_constant_28 : decode y_MText_constant.2.1 28 = .ok (.invokevirtual 194, 3) := by decide +kernel
theorem d_MText_constant_31 : decode y_MText_constant.2.1 31 = .ok (.ifCond .eq 7, 3) := by decide +kernel
theorem d_MText_constant_34 : decode y_MText_constant.2.1 34 = .ok (.iconst 1, 1) := by decide +kernel
theorem d_MText_constant_35 : decode y_MText_constant.2.1 35 = .ok (.goto 4, 3) := by decide +kernel
theorem d_MText_constant_38 : decode y_MText_constant.2.1 38 = .ok (.iconst 0, 1) := by decide +kernel
theorem d_MText_constant_39 : decode y_MText_constant.2.1 39 = .ok (.istore 5, 2) := by decide +kernel
theorem d_MText_constant_41 : decode y_MText_constant.2.1 41 = .ok (.iload_n 3, 1) := by decide +kernel
theorem d_MText_constant_42 : decode y_MText_constant.2.1 42 = .ok (.ifCond .ne 37, 3) := by decide +kernel
theorem d_MText_constant_45 : decode y_MText_constant.2.1 45 = .ok (.aload_n 0, 1) := by decide +kernel
theorem d_MText_constant_46 : decode y_MText_constant.2.1 46 = .ok (.sipush 231, 3) := by decide +kernel
theorem d_MText_constant_49 : decode y_MText_constant.2.1 49 = .ok (.invokevirtual 194, 3) := by decide +kernel
theorem d_MText_constant_52 : decode y_MText_constant.2.1 52 = .ok (.ifCond .ne 23, 3) := by decide +kernel
theorem d_MText_constant_55 : decode y_MText_constant.2.1 55 = .ok (.aload_n 0, 1) := by decide +kernel
theorem d_MText_constant_56 : decode y_MText_constant.2.1 56 = .ok (.sipush 232, 3) := by decide +kernel
theorem d_MText_constant_59 : decode y_MText_constant.2.1 59 = .ok (.invokevirtual 194, 3) := by decide +kernel
theorem d_MText_constant_62 : decode y_MText_constant.2.1 62 = .ok (.ifCond .ne 13, 3) := by decide +kernel
theorem d_MText_constant_65 : decode y_MText_constant.2.1 65 = .ok (.aload_n 0, 1) := by decide +kernel
theorem d_MText_constant_66 : decode y_MText_constant.2.1 66 = .ok (.sipush 233, 3) := by decide +kernel
theorem d_MText_constant_69 : decode y_MText_constant.2.1 69 = .ok (.invokevirtual 194, 3) := by decide +kernel
theorem d_MText_constant_72 : decode y_MText_constant.2.1 72 = .ok (.ifCond .eq 7, 3) := by decide +kernel
theorem d_MText_constant_75 : decode y_MText_constant.2.1 75 = .ok (.iconst 1, 1) := by decide +kernel
theorem d_MText_constant_76 : decode y_MText_constant.2.1 76 = .ok (.goto 4, 3) := by decide +kernel
theorem d_MText_constant_79 : decode y_MText_constant.2.1 79 = .ok (.iconst 0, 1) := by decide +kernel
theorem d_MText_constant_80 : decode y_MText_constant.2.1 80 = .ok (.istore 6, 2) := by decide +kernel
theorem d_MText_constant_82 : decode y_MText_constant.2.1 82 = .ok (.iload 5, 2) := by decide +kernel
theorem d_MText_constant_84 : decode y_MText_constant.2.1 84 = .ok (.ifCond .ne 17, 3) := by decide +kernel
theorem d_MText_constant_87 : decode y_MText_constant.2.1 87 = .ok (.iload 6, 2) := by decide +kernel
theorem d_MText_constant_89 : decode y_MText_constant.2.1 89 = .ok (.ifCond .ne 12, 3) := by decide +kernel
theorem d_MText_constant_92 : decode y_MText_constant.2.1 92 = .ok (.aload_n 0, 1) := by decide +kernel
theorem d_MText_constant_93 : decode y_MText_constant.2.1 93 = .ok (.iconst 1, 1) := by decide +kernel
theorem d_MText_constant_94 : decode y_MText_constant.2.1 94 = .ok (.aload_n 0, 1) := by decide +kernel
theorem d_MText_constant_95 : decode y_MText_constant.2.1 95 = .ok (.getfield 191, 3) := by decide +kernel
theorem d_MText_constant_98 : decode y_MText_constant.2.1 98 = .ok (.invokevirtual 200, 3) := by decide +kernel
theorem d_MText_constant_101 : decode y_MText_constant.2.1 101 = .ok (.iload 5, 2) := by decide +kernel
theorem d_MText_constant_103 : decode y_MText_constant.2.1 103 = .ok (.ifCond .eq 20, 3) := by decide +kernel
theorem d_MText_constant_106 : decode y_MText_constant.2.1 106 = .ok (.aload_n 0, 1) := by decide +kernel
theorem d_MText_constant_107 : decode y_MText_constant.2.1 107 = .ok (.getfield 28, 3) := by decide +kernel
theorem d_MText_constant_110 : decode y_MText_constant.2.1 110 = .ok (.iload 4, 2) := by decide +kernel
theorem d_MText_constant_112 : decode y_MText_constant.2.1 112 = .ok (.baload, 1) := by decide +kernel
theorem d_MText_constant_113 : decode y_MText_constant.2.1 113 = .ok (.ifCond .eq 10, 3) := by decide +kernel
theorem d_MText_constant_116 : decode y_MText_constant.2.1 116 = .ok (.aload_n 0, 1) := by decide +kernel
theorem d_MText_constant_117 : decode y_MText_constant.2.1 117 = .ok (.iconst 2, 1) := by decide +kernel
theorem d_MText_constant_118 : decode y_MText_constant.2.1 118 = .ok (.iload 4, 2) := by decide +kernel
theorem d_MText_constant_120 : decode y_MText_constant.2.1 120 = .ok (.invokevirtual 200, 3) := by decide +kernel
theorem d_MText_constant_123 : decode y_MText_constant.2.1 123 = .ok (.aload_n 0, 1) := by decide +kernel
theorem d_MText_constant_124 : decode y_MText_constant.2.1 124 = .ok (.iconst 2, 1) := by decide +kernel
theorem d_MText_constant_125 : decode y_MText_constant.2.1 125 = .ok (.invokevirtual 194, 3) := by decide +kernel
theorem d_MText_constant_128 : decode y_MText_constant.2.1 128 = .ok (.ifCond .eq 20, 3) := by decide +kernel
theorem d_MText_constant_131 : decode y_MText_constant.2.1 131 = .ok (.iload_n 1, 1) := by decide +kernel
theorem d_MText_constant_132 : decode y_MText_constant.2.1 132 = .ok (.ifCond .eq 8, 3) := by decide +kernel
theorem d_MText_constant_135 : decode y_MText_constant.2.1 135 = .ok (.iload_n 1, 1) := by decide +kernel
theorem d_MText_constant_136 : decode y_MText_constant.2.1 136 = .ok (.iconst 1, 1) := by decide +kernel
theorem d_MText_constant_137 : decode y_MText_constant.2.1 137 = .ok (.if_icmp .ne 7, 3) := by decide +kernel
theorem d_MText_constant_140 : decode y_MText_constant.2.1 140 = .ok (.iconst 1, 1) := by decide +kernel
theorem d_MText_constant_141 : decode y_MText_constant.2.1 141 = .ok (.goto 61, 3) := by decide +kernel
theorem d_MText_constant_144 : decode y_MText_constant.2.1 144 = .ok (.iconst 0, 1) := by decide +kernel
theorem d_MText_constant_145 : decode y_MText_constant.2.1 145 = .ok (.goto 57, 3) := by decide +kernel
theorem d_MText_constant_148 : decode y_MText_constant.2.1 148 = .ok (.aload_n 0, 1) := by decide +kernel
theorem d_MText_constant_149 : decode y_MText_constant.2.1 149 = .ok (.iconst 3, 1) := by decide +kernel
theorem d_MText_constant_150 : decode y_MText_constant.2.1 150 = .ok (.invokevirtual 194, 3) := by decide +kernel
theorem d_MText_constant_153 : decode y_MText_constant.2.1 153 = .ok (.ifCond .eq 16, 3) := by decide +kernel
theorem d_MText_constant_156 : decode y_MText_constant.2.1 156 = .ok (.iload_n 1, 1) := by decide +kernel
theorem d_MText_constant_157 : decode y_MText_constant.2.1 157 = .ok (.iconst 2, 1) := by decide +kernel
theorem d_MText_constant_158 : decode y_MText_constant.2.1 158 = .ok (.if_icmp .ne 7, 3) := by decide +kernel
theorem d_MText_constant_161 : decode y_MText_constant.2.1 161 = .ok (.iconst 1, 1) := by decide +kernel
theorem d_MText_constant_162 : decode y_MText_constant.2.1 162 = .ok (.goto 40, 3) := by decide +kernel
theorem d_MText_constant_165 : decode y_MText_constant.2.1 165 = .ok (.iconst 0, 1) := by decide +kernel
theorem d_MText_constant_166 : decode y_MText_constant.2.1 166 = .ok (.goto 36, 3) := by decide +kernel
theorem d_MText_constant_169 : decode y_MText_constant.2.1 169 = .ok (.aload_n 0, 1) := by decide +kernel
theorem d_MText_constant_170 : decode y_MText_constant.2.1 170 = .ok (.sipush 233, 3) := by decide +kernel
theorem d_MText_constant_173 : decode y_MText_constant.2.1 173 = .ok (.invokevirtual 194, 3) := by decide +kernel
theorem d_MText_constant_176 : decode y_MText_constant.2.1 176 = .ok (.ifCond .eq 16, 3) := by decide +kernel
theorem d_MText_constant_179 : decode y_MText_constant.2.1 179 = .ok (.iload_n 1, 1) := by decide +kernel
theorem d_MText_constant_180 : decode y_MText_constant.2.1 180 = .ok (.iconst 4, 1) := by decide +kernel
theorem d_MText_constant_181 : decode y_MText_constant.2.1 181 = .ok (.if_icmp .ne 7, 3) := by decide +kernel
theorem d_MText_constant_184 : decode y_MText_constant.2.1 184 = .ok (.iconst 1, 1) := by decide +kernel
theorem d_MText_constant_185 : decode y_MText_constant.2.1 185 = .ok (.goto 17, 3) := by decide +kernel
theorem d_MText_constant_188 : decode y_MText_constant.2.1 188 = .ok (.iconst 0, 1) := by decide +kernel
theorem d_MText_constant_189 : decode y_MText_constant.2.1 189 = .ok (.goto 13, 3) := by decide +kernel
theorem d_MText_constant_192 : decode y_MText_constant.2.1 192 = .ok (.iload_n 1, 1) := by decide +kernel
theorem d_MText_constant_193 : decode y_MText_constant.2.1 193 = .ok (.iconst 3, 1) := by decide +kernel
theorem d_MText_constant_194 : decode y_MText_constant.2.1 194 = .ok (.if_icmp .ne 7, 3) := by decide +kernel
theorem d_MText_constant_197 : decode y_MText_constant.2.1 197 = .ok (.iconst 1, 1) := by decide +kernel
theorem d_MText_constant_198 : decode y_MText_constant.2.1 198 = .ok (.goto 4, 3) := by decide +kernel
theorem d_MText_constant_201 : decode y_MText_constant.2.1 201 = .ok (.iconst 0, 1) := by decide +kernel
theorem d_MText_constant_202 : decode y_MText_constant.2.1 202 = .ok (.istore 7, 2) := by decide +kernel
theorem d_MText_constant_204 : decode y_MText_constant.2.1 204 = .ok (.iload 7, 2) := by decide +kernel
theorem d_MText_constant_206 : decode y_MText_constant.2.1 206 = .ok (.ifCond .ne 9, 3) := by decide +kernel
theorem d_MText_constant_209 : decode y_MText_constant.2.1 209 = .ok (.aload_n 0, 1) := by decide +kernel
theorem d_MText_constant_210 : decode y_MText_constant.2.1 210 = .ok (.iconst 5, 1) := by decide +kernel
theorem d_MText_constant_211 : decode y_MText_constant.2.1 211 = .ok (.iload_n 2, 1) := by decide +kernel
theorem d_MText_constant_212 : decode y_MText_constant.2.1 212 = .ok (.invokevirtual 200, 3) := by decide +kernel
theorem d_MText_constant_215 : decode y_MText_constant.2.1 215 = .ok (.aload_n 0, 1) := by decide +kernel
theorem d_MText_constant_216 : decode y_MText_constant.2.1 216 = .ok (.getfield 185, 3) := by decide +kernel
theorem d_MText_constant_219 : decode y_MText_constant.2.1 219 = .ok (.ifCond .le 5, 3) := by decide +kernel
theorem d_MText_constant_222 : decode y_MText_constant.2.1 222 = .ok (.iconst 0, 1) := by decide +kernel
theorem d_MText_constant_223 : decode y_MText_constant.2.1 223 = .ok (.ireturn, 1) := by decide +kernel
theorem d_MText_constant_224 : decode y_MText_constant.2.1 224 = .ok (.aload_n 0, 1) := by decide +kernel
theorem d_MText_constant_225 : decode y_MText_constant.2.1 225 = .ok (.dup, 1) := by decide +kernel
theorem d_MText_constant_226 : decode y_MText_constant.2.1 226 = .ok (.getfield 191, 3) := by decide +kernel
theorem d_MText_constant_229 : decode y_MText_constant.2.1 229 = .ok (.iconst 1, 1) := by decide +kernel
theorem d_MText_constant_230 : decode y_MText_constant.2.1 230 = .ok (.iadd, 1) := by decide +kernel
theorem d_MText_constant_231 : decode y_MText_constant.2.1 231 = .ok (.putfield 191, 3) := by decide +kernel
theorem d_MText_constant_234 : decode y_MText_constant.2.1 234 = .ok (.iload 5, 2) := by decide +kernel
theorem d_MText_constant_236 : decode y_MText_constant.2.1 236 = .ok (.ifCond .eq 13, 3) := by decide +kernel
theorem d_MText_constant_239 : decode y_MText_constant.2.1 239 = .ok (.aload_n 0, 1) := by decide +kernel
theorem d_MText_constant_240 : decode y_MText_constant.2.1 240 = .ok (.getfield 25, 3) := by decide +kernel
theorem d_MText_constant_243 : decode y_MText_constant.2.1 243 = .ok (.iload 4, 2) := by decide +kernel
theorem d_MText_constant_245 : decode y_MText_constant.2.1 245 = .ok (.iaload, 1) := by decide +kernel
theorem d_MText_constant_246 : decode y_MText_constant.2.1 246 = .ok (.goto 38, 3) := by decide +kernel
theorem d_MText_constant_249 : decode y_MText_constant.2.1 249 = .ok (.aload_n 0, 1) := by decide +kernel
theorem d_MText_constant_250 : decode y_MText_constant.2.1 250 = .ok (.getfield 15, 3) := by decide +kernel
theorem d_MText_constant_253 : decode y_MText_constant.2.1 253 = .ok (.iload 4, 2) := by decide +kernel
theorem d_MText_constant_255 : decode y_MText_constant.2.1 255 = .ok (.iaload, 1) := by decide +kernel
theorem d_MText_constant_256 : decode y_MText_constant.2.1 256 = .ok (.sipush 231, 3) := by decide +kernel
theorem d_MText_constant_259 : decode y_MText_constant.2.1 259 = .ok (.if_icmp .ne 7, 3) := by decide +kernel
theorem d_MText_constant_262 : decode y_MText_constant.2.1 262 = .ok (.iconst 1, 1) := by decide +kernel
theorem d_MText_constant_263 : decode y_MText_constant.2.1 263 = .ok (.goto 21, 3) := by decide +kernel
theorem d_MText_constant_266 : decode y_MText_constant.2.1 266 = .ok (.aload_n 0, 1) := by decide +kernel
theorem d_MText_constant_267 : decode y_MText_constant.2.1 267 = .ok (.getfield 15, 3) := by decide +kernel
theorem d_MText_constant_270 : decode y_MText_constant.2.1 270 = .ok (.iload 4, 2) := by decide +kernel
theorem d_MText_constant_272 : decode y_MText_constant.2.1 272 = .ok (.iaload, 1) := by decide +kernel
theorem d_MText_constant_273 : decode y_MText_constant.2.1 273 = .ok (.sipush 233, 3) := by decide +kernel
theorem d_MText_constant_276 : decode y_MText_constant.2.1 276 = .ok (.if_icmp .ne 7, 3) := by decide +kernel
theorem d_MText_constant_279 : decode y_MText_constant.2.1 279 = .ok (.iconst (-1), 1) := by decide +kernel
theorem d_MText_constant_280 : decode y_MText_constant.2.1 280 = .ok (.goto 4, 3) := by decide +kernel
theorem d_MText_constant_283 : decode y_MText_constant.2.1 283 = .ok (.iconst 0, 1) := by decide +kernel
theorem d_MText_constant_284 : decode y_MText_constant.2.1 284 = .ok (.istore 8, 2) := by decide +kernel
theorem d_MText_constant_286 : decode y_MText_constant.2.1 286 = .ok (.iload_n 1, 1) := by decide +kernel
theorem d_MText_constant_287 : decode y_MText_constant.2.1 287 = .ok (.iload_n 3, 1) := by decide +kernel
theorem d_MText_constant_288 : decode y_MText_constant.2.1 288 = .ok (.ifCond .eq 10, 3) := by decide +kernel
theorem d_MText_constant_291 : decode y_MText_constant.2.1 291 = .ok (.iload 8, 2) := by decide +kernel
theorem d_MText_constant_293 : decode y_MText_constant.2.1 293 = .ok (.ineg, 1) := by decide +kernel
theorem d_MText_constant_294 : decode y_MText_constant.2.1 294 = .ok (.i2l, 1) := by decide +kernel
theorem d_MText_constant_295 : decode y_MText_constant.2.1 295 = .ok (.goto 6, 3) := by decide +kernel
theorem d_MText_constant_298 : decode y_MText_constant.2.1 298 = .ok (.iload 8, 2) := by decide +kernel
theorem d_MText_constant_300 : decode y_MText_constant.2.1 300 = .ok (.i2l, 1) := by decide +kernel
theorem d_MText_constant_301 : decode y_MText_constant.2.1 301 = .ok (.invokestatic 277, 3) := by decide +kernel
theorem d_MText_constant_304 : decode y_MText_constant.2.1 304 = .ok (.ireturn, 1) := by decide +kernel
theorem s_MText_constant : ab_Stat y_MText_constant 1 := ⟨(k11 3 rfl rfl), (k1 20 rfl rfl), ⟨by decide, by decide⟩, by decide +kernel⟩
theorem i_MText_constant : Cond.instanceMethod y_MText_constant.1 ∈ ab_T := (k11 2 rfl rfl)
theorem v_MText_constant : Cond.selects "WorldEngineModel$Text" y_MText_constant.1 y_MText_constant.1 ∈ ab_T := ab_s (List.mem_of_getElem? (i := 134) rfl) rfl
def B_MText_constant_301 (N : Nat) (p0 : Nat) (p1 : Int32) (w0 : Int32) (w1 : Int64) (H : Hp) : Option (Int32 × Hp) :=
    bC (F_M_held N w0 w1 H) fun v51 H52 =>
    some (v51, H52)
set_option maxRecDepth 20000 in
set_option maxHeartbeats 2000000 in
theorem mB_MText_constant_301 {N : Nat} {p0 : Nat} {p1 : Int32} {w0 : Int32} {w1 : Int64} {H : Hp} {r : Int32 × Hp} (hF : B_MText_constant_301 N p0 p1 w0 w1 H = some r) : Sa H r.2 := by
  unfold B_MText_constant_301 at hF
  have hm := Sa.rf H
  obtain ⟨v54, H55, z53, hG⟩ := bC_s hF; clear hF
  replace hm : Sa H H55 := hm.tr (m_M_held z53)
  have hr := Option.some.inj hG; subst hr
  exact hm
set_option maxRecDepth 20000 in
set_option maxHeartbeats 2000000 in
theorem kB_MText_constant_301 {N : Nat} {p0 : Nat} {p1 : Int32} {w0 : Int32} {w1 : Int64} {H : Hp} {r : Int32 × Hp} (hF : B_MText_constant_301 N p0 p1 w0 w1 H = some r) : ab_V y_MText_constant { frames := 2, cells := 0, slots := 0, locals := 43 } (po (.returned (some (.int r.1))) r.2) 0 0 0 0 301 [some (.ref p0), some (.int p1), none, none, none, none, none, none, none] [.long w1, .int w0] (hpw H) := by
  unfold B_MText_constant_301 at hF
  obtain ⟨v51, H52, z50, hG⟩ := bC_s hF; clear hF
  refine hp_callSN_a (v := .int v51) (H1 := H52) (As := [.int w0, .long w1]) (rest := []) d_MText_constant_301 (k_M_held z50) (ab_mkC s_M_held (Nat.le_of_ble_eq_true rfl) (Nat.le_of_ble_eq_true rfl) (Nat.le_refl 0) (Nat.le_refl 0)) (k11 4 rfl rfl) t_M_held rfl (Nat.le_of_ble_eq_true rfl) ?_
  have s_7 : Sa H H52 := (m_M_held z50)
  exact ab_iret d_MText_constant_304 rfl (Nat.le_refl _) (Nat.le_refl _) (by have hr := Option.some.inj hG; subst hr; exact ⟨rfl, rfl⟩)
def B_MText_constant_284 (N : Nat) (p0 : Nat) (p1 : Int32) (l3 : Int32) (w0 : Int32) (H : Hp) : Option (Int32 × Hp) :=
    if l3 = (0 : Int32) then
    B_MText_constant_301 N p0 p1 p1 ((w0 : Int32).toInt64) H
    else
    B_MText_constant_301 N p0 p1 p1 (((-w0) : Int32).toInt64) H
set_option maxRecDepth 20000 in
set_option maxHeartbeats 2000000 in
theorem mB_MText_constant_284 {N : Nat} {p0 : Nat} {p1 : Int32} {l3 : Int32} {w0 : Int32} {H : Hp} {r : Int32 × Hp} (hF : B_MText_constant_284 N p0 p1 l3 w0 H = some r) : Sa H r.2 := by
  unfold B_MText_constant_284 at hF
  have hm := Sa.rf H
  rcases ite_s hF with ⟨q_9, hG⟩ | ⟨q_9, hG⟩
  · clear hF
    exact hm.tr (mB_MText_constant_301 hG)
  · clear hF
    exact hm.tr (mB_MText_constant_301 hG)
set_option maxRecDepth 20000 in
set_option maxHeartbeats 2000000 in
theorem kB_MText_constant_284 {N : Nat} {p0 : Nat} {p1 : Int32} {l3 : Int32} {w0 : Int32} {H : Hp} {r : Int32 × Hp} (hF : B_MText_constant_284 N p0 p1 l3 w0 H = some r) : ab_V y_MText_constant { frames := 2, cells := 0, slots := 0, locals := 43 } (po (.returned (some (.int r.1))) r.2) 0 0 0 0 284 [some (.ref p0), some (.int p1), none, some (.int l3), none, none, none, none, none] [.int w0] (hpw H) := by
  unfold B_MText_constant_284 at hF
  refine ab_istore (lv' := [some (.ref p0), some (.int p1), none, some (.int l3), none, none, none, none, some (.int w0)]) d_MText_constant_284 (by decide) rfl ?_
  refine ab_iload_n d_MText_constant_286 rfl rfl ?_
  refine ab_iload_n d_MText_constant_287 rfl rfl ?_
  refine ab_if_eq (tgt := 298) d_MText_constant_288 (by decide) (fun q49 => ?_) (fun q49 => ?_)
  · rw [if_pos q49] at hF
    refine ab_iload d_MText_constant_298 rfl ?_
    refine ab_i2l d_MText_constant_300 ?_
    refine ab_le (lv' := [some (.ref p0), some (.int p1), none, none, none, none, none, none, none]) ⟨rfl, ⟨rfl, trivial⟩⟩ ?_
    exact kB_MText_constant_301 hF
  · rw [if_neg q49] at hF
    refine ab_iload d_MText_constant_291 rfl ?_
    refine ab_ineg d_MText_constant_293 ?_
    refine ab_i2l d_MText_constant_294 ?_
    refine ab_goto (tgt := 301) d_MText_constant_295 (by decide) ?_
    refine ab_le (lv' := [some (.ref p0), some (.int p1), none, none, none, none, none, none, none]) ⟨rfl, ⟨rfl, trivial⟩⟩ ?_
    exact kB_MText_constant_301 hF
def B_MText_constant_215 (N : Nat) (p0 : Nat) (p1 : Int32) (l3 : Int32) (l4 : Int32) (l5 : Int32) (H : Hp) : Option (Int32 × Hp) :=
    ck (H.sh[p0]? = some (14, 0)) <|
    bnd ((H.D p0 9)) fun x30 =>
    if x30 ≤ (0 : Int32) then
    bnd ((H.D p0 11)) fun x32 =>
    bnd (H.sD p0 11 (x32 + (1 : Int32))) fun H33 =>
    if l5 = (0 : Int32) then
    rf (H33.P p0 3) fun a35 =>
    ar H33 100 a35 fun n37 =>
    ck (inb l4 n37) <|
    bnd ((H33.D a35 (l4).toNatClampNeg)) fun x40 =>
    if x40 = (231 : Int32) then
    B_MText_constant_284 N p0 p1 l3 1 H33
    else
    rf (H33.P p0 3) fun a42 =>
    ar H33 100 a42 fun n44 =>
    ck (inb l4 n44) <|
    bnd ((H33.D a42 (l4).toNatClampNeg)) fun x47 =>
    if x47 = (233 : Int32) then
    B_MText_constant_284 N p0 p1 l3 (-1) H33
    else
    B_MText_constant_284 N p0 p1 l3 0 H33
    else
    rf (H33.P p0 6) fun a57 =>
    ar H33 100 a57 fun n59 =>
    ck (inb l4 n59) <|
    bnd ((H33.D a57 (l4).toNatClampNeg)) fun x62 =>
    B_MText_constant_284 N p0 p1 l3 x62 H33
    else
    some (0, H)
set_option maxRecDepth 20000 in
set_option maxHeartbeats 2000000 in
theorem mB_MText_constant_215 {N : Nat} {p0 : Nat} {p1 : Int32} {l3 : Int32} {l4 : Int32} {l5 : Int32} {H : Hp} {r : Int32 × Hp} (hF : B_MText_constant_215 N p0 p1 l3 l4 l5 H = some r) : Sa H r.2 := by
  unfold B_MText_constant_215 at hF
  have hm := Sa.rf H
  obtain ⟨q63, hG⟩ := ck_s hF; clear hF
  obtain ⟨x64, -, hF⟩ := bnd_g hG; clear hG
  rcases ite_s hF with ⟨q_10, hG⟩ | ⟨q_10, hG⟩
  · clear hF
    obtain ⟨x66, -, hF⟩ := bnd_g hG; clear hG
    obtain ⟨H67, eH67, hG⟩ := bnd_g hF; clear hF
    replace hm : Sa H H67 := by rw [eH67]; exact hm
    rcases ite_s hG with ⟨q_12, hF⟩ | ⟨q_12, hF⟩
    · clear hG
      obtain ⟨a69, e70, hG⟩ := rf_s hF; clear hF
      obtain ⟨n71, q72, hF⟩ := ar_s hG; clear hG
      obtain ⟨q73, hG⟩ := ck_s hF; clear hF
      obtain ⟨x74, -, hF⟩ := bnd_g hG; clear hG
      rcases ite_s hF with ⟨q_13, hG⟩ | ⟨q_13, hG⟩
      · clear hF
        exact hm.tr (mB_MText_constant_284 hG)
      · clear hF
        obtain ⟨a76, e77, hF⟩ := rf_s hG; clear hG
        obtain ⟨n78, q79, hG⟩ := ar_s hF; clear hF
        obtain ⟨q80, hF⟩ := ck_s hG; clear hG
        obtain ⟨x81, -, hG⟩ := bnd_g hF; clear hF
        rcases ite_s hG with ⟨q_14, hF⟩ | ⟨q_14, hF⟩
        · clear hG
          exact hm.tr (mB_MText_constant_284 hF)
        · clear hG
          exact hm.tr (mB_MText_constant_284 hF)
    · clear hG
      obtain ⟨a83, e84, hG⟩ := rf_s hF; clear hF
      obtain ⟨n85, q86, hF⟩ := ar_s hG; clear hG
      obtain ⟨q87, hG⟩ := ck_s hF; clear hF
      obtain ⟨x88, -, hF⟩ := bnd_g hG; clear hG
      exact hm.tr (mB_MText_constant_284 hF)
  · clear hF
    have hr := Option.some.inj hG; subst hr
    exact hm
set_option maxRecDepth 20000 in
set_option maxHeartbeats 2000000 in
theorem kB_MText_constant_215 {N : Nat} {p0 : Nat} {p1 : Int32} {l3 : Int32} {l4 : Int32} {l5 : Int32} {H : Hp} {r : Int32 × Hp} (hF : B_MText_constant_215 N p0 p1 l3 l4 l5 H = some r) : ab_V y_MText_constant { frames := 2, cells := 0, slots := 0, locals := 43 } (po (.returned (some (.int r.1))) r.2) 0 0 0 0 215 [some (.ref p0), some (.int p1), none, some (.int l3), some (.int l4), some (.int l5), none, none, none] [] (hpw H) := by
  unfold B_MText_constant_215 at hF
  refine ab_aload_n d_MText_constant_215 rfl rfl rfl ?_
  obtain ⟨q29, hG⟩ := ck_s hF; clear hF
  refine hp_getI (f := 9) d_MText_constant_216 q29 (by decide) rfl (by decide) (k8 172 rfl rfl) rfl ?_
  refine ab_topi (fun x30 ex30 => ?_)
  replace hG := bnd_s ex30 hG
  refine ab_if_le (tgt := 224) d_MText_constant_219 (by decide) (fun q31 => ?_) (fun q31 => ?_)
  · rw [if_pos q31] at hG
    refine ab_aload_n d_MText_constant_224 rfl rfl rfl ?_
    refine ab_dup d_MText_constant_225 rfl ?_
    refine hp_getI (f := 11) d_MText_constant_226 q29 (by decide) rfl (by decide) (k8 175 rfl rfl) rfl ?_
    refine ab_topi (fun x32 ex32 => ?_)
    replace hG := bnd_s ex32 hG
    refine ab_iconst (v := 1) d_MText_constant_229 (by decide) ?_
    refine ab_iadd d_MText_constant_230 ?_
    refine hp_putI (v := x32 + (1 : Int32)) (f := 11) d_MText_constant_231 q29 (by decide) rfl (by decide) (k8 175 rfl rfl) rfl rfl (fun _ => rfl) (fun _ => rfl) rfl ?_
    refine hp_gen (fun H33 eH33 => ?_)
    replace hG := bnd_s eH33 hG
    have s_6 : Sa H H33 := by rw [eH33]; exact Sa.rf _
    refine ab_iload d_MText_constant_234 rfl ?_
    refine ab_if_eq (tgt := 249) d_MText_constant_236 (by decide) (fun q34 => ?_) (fun q34 => ?_)
    · rw [if_pos q34] at hG
      refine ab_aload_n d_MText_constant_249 rfl rfl rfl ?_
      obtain ⟨a35, e36, hF⟩ := rf_s hG; clear hG
      refine hp_getR (f := 3) d_MText_constant_250 (by rw [(s_6).1]; exact q29) (by decide) rfl (by decide) (k8 162 rfl rfl) rfl e36 ?_
      refine ab_iload d_MText_constant_253 rfl ?_
      obtain ⟨n37, q38, hG⟩ := ar_s hF; clear hF
      rw [(s_6).1] at q38
      obtain ⟨q39, hF⟩ := ck_s hG; clear hG
      refine hp_iald d_MText_constant_255 tI (by rw [(s_6).1]; exact q38) q39 ?_
      refine ab_topi (fun x40 ex40 => ?_)
      replace hF := bnd_s ex40 hF
      refine ab_sipush (v := 231) d_MText_constant_256 (by decide) ?_
      refine ab_icmp_ne (tgt := 266) d_MText_constant_259 (by decide) (fun q41 => ?_) (fun q41 => ?_)
      · rw [if_neg q41] at hF
        refine ab_aload_n d_MText_constant_266 rfl rfl rfl ?_
        obtain ⟨a42, e43, hG⟩ := rf_s hF; clear hF
        refine hp_getR (f := 3) d_MText_constant_267 (by rw [(s_6).1]; exact q29) (by decide) rfl (by decide) (k8 162 rfl rfl) rfl e43 ?_
        refine ab_iload d_MText_constant_270 rfl ?_
        obtain ⟨n44, q45, hF⟩ := ar_s hG; clear hG
        rw [(s_6).1] at q45
        obtain ⟨q46, hG⟩ := ck_s hF; clear hF
        refine hp_iald d_MText_constant_272 tI (by rw [(s_6).1]; exact q45) q46 ?_
        refine ab_topi (fun x47 ex47 => ?_)
        replace hG := bnd_s ex47 hG
        refine ab_sipush (v := 233) d_MText_constant_273 (by decide) ?_
        refine ab_icmp_ne (tgt := 283) d_MText_constant_276 (by decide) (fun q48 => ?_) (fun q48 => ?_)
        · rw [if_neg q48] at hG
          refine ab_iconst (v := 0) d_MText_constant_283 (by decide) ?_
          refine ab_le (lv' := [some (.ref p0), some (.int p1), none, some (.int l3), none, none, none, none, none]) ⟨rfl, ⟨rfl, ⟨rfl, trivial⟩⟩⟩ ?_
          exact kB_MText_constant_284 hG
        · rw [if_pos q48] at hG
          refine ab_iconst (v := (-1)) d_MText_constant_279 (by decide) ?_
          refine ab_goto (tgt := 284) d_MText_constant_280 (by decide) ?_
          refine ab_le (lv' := [some (.ref p0), some (.int p1), none, some (.int l3), none, none, none, none, none]) ⟨rfl, ⟨rfl, ⟨rfl, trivial⟩⟩⟩ ?_
          exact kB_MText_constant_284 hG
      · rw [if_pos q41] at hF
        refine ab_iconst (v := 1) d_MText_constant_262 (by decide) ?_
        refine ab_goto (tgt := 284) d_MText_constant_263 (by decide) ?_
        refine ab_le (lv' := [some (.ref p0), some (.int p1), none, some (.int l3), none, none, none, none, none]) ⟨rfl, ⟨rfl, ⟨rfl, trivial⟩⟩⟩ ?_
        exact kB_MText_constant_284 hF
    · rw [if_neg q34] at hG
      refine ab_aload_n d_MText_constant_239 rfl rfl rfl ?_
      obtain ⟨a57, e58, hF⟩ := rf_s hG; clear hG
      refine hp_getR (f := 6) d_MText_constant_240 (by rw [(s_6).1]; exact q29) (by decide) rfl (by decide) (k8 166 rfl rfl) rfl e58 ?_
      refine ab_iload d_MText_constant_243 rfl ?_
      obtain ⟨n59, q60, hG⟩ := ar_s hF; clear hF
      rw [(s_6).1] at q60
      obtain ⟨q61, hF⟩ := ck_s hG; clear hG
      refine hp_iald d_MText_constant_245 tI (by rw [(s_6).1]; exact q60) q61 ?_
      refine ab_topi (fun x62 ex62 => ?_)
      replace hF := bnd_s ex62 hF
      refine ab_goto (tgt := 284) d_MText_constant_246 (by decide) ?_
      refine ab_le (lv' := [some (.ref p0), some (.int p1), none, some (.int l3), none, none, none, none, none]) ⟨rfl, ⟨rfl, ⟨rfl, trivial⟩⟩⟩ ?_
      exact kB_MText_constant_284 hF
  · rw [if_neg q31] at hG
    refine ab_iconst (v := 0) d_MText_constant_222 (by decide) ?_
    exact ab_iret d_MText_constant_223 rfl (Nat.le_refl _) (Nat.le_refl _) (by have hr := Option.some.inj hG; subst hr; exact ⟨rfl, rfl⟩)
def B_MText_constant_202 (N : Nat) (p0 : Nat) (p1 : Int32) (l2 : Int32) (l3 : Int32) (l4 : Int32) (l5 : Int32) (w0 : Int32) (H : Hp) : Option (Int32 × Hp) :=
    if w0 = (0 : Int32) then
    ck (H.sh[p0]? = some (14, 0)) <|
    bC (F_MText_fails N p0 (5 : Int32) l2 H) fun v91 H92 =>
    B_MText_constant_215 N p0 p1 l3 l4 l5 H92
    else
    B_MText_constant_215 N p0 p1 l3 l4 l5 H
set_option maxRecDepth 20000 in
set_option maxHeartbeats 2000000 in
theorem mB_MText_constant_202 {N : Nat} {p0 : Nat} {p1 : Int32} {l2 : Int32} {l3 : Int32} {l4 : Int32} {l5 : Int32} {w0 : Int32} {H : Hp} {r : Int32 × Hp} (hF : B_MText_constant_202 N p0 p1 l2 l3 l4 l5 w0 H = some r) : Sa H r.2 := by
  unfold B_MText_constant_202 at hF
  have hm := Sa.rf H
  rcases ite_s hF with ⟨q_16, hG⟩ | ⟨q_16, hG⟩
  · clear hF
    obtain ⟨q94, hF⟩ := ck_s hG; clear hG
    obtain ⟨v96, H97, z95, hG⟩ := bC_s hF; clear hF
    replace hm : Sa H H97 := hm.tr (m_MText_fails z95)
    exact hm.tr (mB_MText_constant_215 hG)
  · clear hF
    exact hm.tr (mB_MText_constant_215 hG)
set_option maxRecDepth 20000 in
set_option maxHeartbeats 2000000 in
theorem kB_MText_constant_202 {N : Nat} {p0 : Nat} {p1 : Int32} {l2 : Int32} {l3 : Int32} {l4 : Int32} {l5 : Int32} {w0 : Int32} {H : Hp} {r : Int32 × Hp} (hF : B_MText_constant_202 N p0 p1 l2 l3 l4 l5 w0 H = some r) : ab_V y_MText_constant { frames := 2, cells := 0, slots := 0, locals := 43 } (po (.returned (some (.int r.1))) r.2) 0 0 0 0 202 [some (.ref p0), some (.int p1), some (.int l2), some (.int l3), some (.int l4), some (.int l5), none, none, none] [.int w0] (hpw H) := by
  unfold B_MText_constant_202 at hF
  refine ab_istore (lv' := [some (.ref p0), some (.int p1), some (.int l2), some (.int l3), some (.int l4), some (.int l5), none, some (.int w0), none]) d_MText_constant_202 (by decide) rfl ?_
  refine ab_iload d_MText_constant_204 rfl ?_
  refine ab_if_ne (tgt := 215) d_MText_constant_206 (by decide) (fun q28 => ?_) (fun q28 => ?_)
  · rw [if_neg q28] at hF
    refine ab_le (lv' := [some (.ref p0), some (.int p1), none, some (.int l3), some (.int l4), some (.int l5), none, none, none]) ⟨rfl, ⟨rfl, ⟨rfl, ⟨rfl, ⟨rfl, trivial⟩⟩⟩⟩⟩ ?_
    exact kB_MText_constant_215 hF
  · rw [if_pos q28] at hF
    refine ab_aload_n d_MText_constant_209 rfl rfl rfl ?_
    refine ab_iconst (v := 5) d_MText_constant_210 (by decide) ?_
    refine ab_iload_n d_MText_constant_211 rfl rfl ?_
    obtain ⟨q89, hG⟩ := ck_s hF; clear hF
    obtain ⟨v91, H92, z90, hF⟩ := bC_s hG; clear hG
    refine hp_callV_v (H1 := H92) (As := [.int 5, .int l2]) (rest := []) d_MText_constant_212 (k_MText_fails z90) (ab_mkC s_MText_fails (Nat.le_of_ble_eq_true rfl) (Nat.le_of_ble_eq_true rfl) (Nat.le_refl 0) (Nat.le_refl 0)) (k10 160 rfl rfl) i_MText_fails v_MText_fails q89 (by decide) rfl rfl (Nat.le_of_ble_eq_true rfl) ?_
    have s_15 : Sa H H92 := (m_MText_fails z90)
    refine ab_le (lv' := [some (.ref p0), some (.int p1), none, some (.int l3), some (.int l4), some (.int l5), none, none, none]) ⟨rfl, ⟨rfl, ⟨rfl, ⟨rfl, ⟨rfl, trivial⟩⟩⟩⟩⟩ ?_
    exact kB_MText_constant_215 hF
def B_MText_constant_140 (N : Nat) (p0 : Nat) (p1 : Int32) (l2 : Int32) (l3 : Int32) (l4 : Int32) (l5 : Int32) (H : Hp) : Option (Int32 × Hp) :=
    B_MText_constant_202 N p0 p1 l2 l3 l4 l5 1 H
set_option maxRecDepth 20000 in
set_option maxHeartbeats 2000000 in
theorem mB_MText_constant_140 {N : Nat} {p0 : Nat} {p1 : Int32} {l2 : Int32} {l3 : Int32} {l4 : Int32} {l5 : Int32} {H : Hp} {r : Int32 × Hp} (hF : B_MText_constant_140 N p0 p1 l2 l3 l4 l5 H = some r) : Sa H r.2 := by
  unfold B_MText_constant_140 at hF
  have hm := Sa.rf H
  exact hm.tr (mB_MText_constant_202 hF)
set_option maxRecDepth 20000 in
set_option maxHeartbeats 2000000 in
theorem kB_MText_constant_140 {N : Nat} {p0 : Nat} {p1 : Int32} {l2 : Int32} {l3 : Int32} {l4 : Int32} {l5 : Int32} {H : Hp} {r : Int32 × Hp} (hF : B_MText_constant_140 N p0 p1 l2 l3 l4 l5 H = some r) : ab_V y_MText_constant { frames := 2, cells := 0, slots := 0, locals := 43 } (po (.returned (some (.int r.1))) r.2) 0 0 0 0 140 [some (.ref p0), some (.int p1), some (.int l2), some (.int l3), some (.int l4), some (.int l5), none, none, none] [] (hpw H) := by
  unfold B_MText_constant_140 at hF
  refine ab_iconst (v := 1) d_MText_constant_140 (by decide) ?_
  refine ab_goto (tgt := 202) d_MText_constant_141 (by decide) ?_
  exact kB_MText_constant_202 hF
def B_MText_constant_123 (N : Nat) (p0 : Nat) (p1 : Int32) (l2 : Int32) (l3 : Int32) (l4 : Int32) (l5 : Int32) (H : Hp) : Option (Int32 × Hp) :=
    ck (H.sh[p0]? = some (14, 0)) <|
    bC (F_MText_is N p0 (2 : Int32) H) fun v16 H17 =>
    if v16 = (0 : Int32) then
    bC (F_MText_is N p0 (3 : Int32) H17) fun v20 H21 =>
    if v20 = (0 : Int32) then
    bC (F_MText_is N p0 (233 : Int32) H21) fun v24 H25 =>
    if v24 = (0 : Int32) then
    if p1 = (3 : Int32) then
    B_MText_constant_202 N p0 p1 l2 l3 l4 l5 1 H25
    else
    B_MText_constant_202 N p0 p1 l2 l3 l4 l5 0 H25
    else
    if p1 = (4 : Int32) then
    B_MText_constant_202 N p0 p1 l2 l3 l4 l5 1 H25
    else
    B_MText_constant_202 N p0 p1 l2 l3 l4 l5 0 H25
    else
    if p1 = (2 : Int32) then
    B_MText_constant_202 N p0 p1 l2 l3 l4 l5 1 H21
    else
    B_MText_constant_202 N p0 p1 l2 l3 l4 l5 0 H21
    else
    if p1 = (0 : Int32) then
    B_MText_constant_140 N p0 p1 l2 l3 l4 l5 H17
    else
    if p1 = (1 : Int32) then
    B_MText_constant_140 N p0 p1 l2 l3 l4 l5 H17
    else
    B_MText_constant_202 N p0 p1 l2 l3 l4 l5 0 H17
set_option maxRecDepth 20000 in
set_option maxHeartbeats 2000000 in
theorem mB_MText_constant_123 {N : Nat} {p0 : Nat} {p1 : Int32} {l2 : Int32} {l3 : Int32} {l4 : Int32} {l5 : Int32} {H : Hp} {r : Int32 × Hp} (hF : B_MText_constant_123 N p0 p1 l2 l3 l4 l5 H = some r) : Sa H r.2 := by
  unfold B_MText_constant_123 at hF
  have hm := Sa.rf H
  obtain ⟨q102, hG⟩ := ck_s hF; clear hF
  obtain ⟨v104, H105, z103, hF⟩ := bC_s hG; clear hG
  replace hm : Sa H H105 := hm.tr (m_MText_is z103)
  rcases ite_s hF with ⟨q_19, hG⟩ | ⟨q_19, hG⟩
  · clear hF
    obtain ⟨v108, H109, z107, hF⟩ := bC_s hG; clear hG
    replace hm : Sa H H109 := hm.tr (m_MText_is z107)
    rcases ite_s hF with ⟨q_21, hG⟩ | ⟨q_21, hG⟩
    · clear hF
      obtain ⟨v112, H113, z111, hF⟩ := bC_s hG; clear hG
      replace hm : Sa H H113 := hm.tr (m_MText_is z111)
      rcases ite_s hF with ⟨q_23, hG⟩ | ⟨q_23, hG⟩
      · clear hF
        rcases ite_s hG with ⟨q_24, hF⟩ | ⟨q_24, hF⟩
        · clear hG
          exact hm.tr (mB_MText_constant_202 hF)
        · clear hG
          exact hm.tr (mB_MText_constant_202 hF)
      · clear hF
        rcases ite_s hG with ⟨q_25, hF⟩ | ⟨q_25, hF⟩
        · clear hG
          exact hm.tr (mB_MText_constant_202 hF)
        · clear hG
          exact hm.tr (mB_MText_constant_202 hF)
    · clear hF
      rcases ite_s hG with ⟨q_26, hF⟩ | ⟨q_26, hF⟩
      · clear hG
        exact hm.tr (mB_MText_constant_202 hF)
      · clear hG
        exact hm.tr (mB_MText_constant_202 hF)
  · clear hF
    rcases ite_s hG with ⟨q_27, hF⟩ | ⟨q_27, hF⟩
    · clear hG
      exact hm.tr (mB_MText_constant_140 hF)
    · clear hG
      rcases ite_s hF with ⟨q_28, hG⟩ | ⟨q_28, hG⟩
      · clear hF
        exact hm.tr (mB_MText_constant_140 hG)
      · clear hF
        exact hm.tr (mB_MText_constant_202 hG)
set_option maxRecDepth 20000 in
set_option maxHeartbeats 2000000 in
theorem kB_MText_constant_123 {N : Nat} {p0 : Nat} {p1 : Int32} {l2 : Int32} {l3 : Int32} {l4 : Int32} {l5 : Int32} {H : Hp} {r : Int32 × Hp} (hF : B_MText_constant_123 N p0 p1 l2 l3 l4 l5 H = some r) : ab_V y_MText_constant { frames := 2, cells := 0, slots := 0, locals := 43 } (po (.returned (some (.int r.1))) r.2) 0 0 0 0 123 [some (.ref p0), some (.int p1), some (.int l2), some (.int l3), some (.int l4), some (.int l5), none, none, none] [] (hpw H) := by
  unfold B_MText_constant_123 at hF
  refine ab_aload_n d_MText_constant_123 rfl rfl rfl ?_
  refine ab_iconst (v := 2) d_MText_constant_124 (by decide) ?_
  obtain ⟨q14, hG⟩ := ck_s hF; clear hF
  obtain ⟨v16, H17, z15, hF⟩ := bC_s hG; clear hG
  refine hp_callV_a (v := .int v16) (H1 := H17) (As := [.int 2]) (rest := []) d_MText_constant_125 (k_MText_is z15) (ab_mkC s_MText_is (Nat.le_of_ble_eq_true rfl) (Nat.le_of_ble_eq_true rfl) (Nat.le_refl 0) (Nat.le_refl 0)) (k10 180 rfl rfl) i_MText_is v_MText_is q14 (by decide) rfl rfl (Nat.le_of_ble_eq_true rfl) ?_
  have s_3 : Sa H H17 := (m_MText_is z15)
  refine ab_if_eq (tgt := 148) d_MText_constant_128 (by decide) (fun q18 => ?_) (fun q18 => ?_)
  · rw [if_pos q18] at hF
    refine ab_aload_n d_MText_constant_148 rfl rfl rfl ?_
    refine ab_iconst (v := 3) d_MText_constant_149 (by decide) ?_
    obtain ⟨v20, H21, z19, hG⟩ := bC_s hF; clear hF
    refine hp_callV_a (v := .int v20) (H1 := H21) (As := [.int 3]) (rest := []) d_MText_constant_150 (k_MText_is z19) (ab_mkC s_MText_is (Nat.le_of_ble_eq_true rfl) (Nat.le_of_ble_eq_true rfl) (Nat.le_refl 0) (Nat.le_refl 0)) (k10 180 rfl rfl) i_MText_is v_MText_is (by rw [(s_3).1]; exact q14) (by decide) rfl rfl (Nat.le_of_ble_eq_true rfl) ?_
    have s_4 : Sa H H21 := (s_3).tr (m_MText_is z19)
    refine ab_if_eq (tgt := 169) d_MText_constant_153 (by decide) (fun q22 => ?_) (fun q22 => ?_)
    · rw [if_pos q22] at hG
      refine ab_aload_n d_MText_constant_169 rfl rfl rfl ?_
      refine ab_sipush (v := 233) d_MText_constant_170 (by decide) ?_
      obtain ⟨v24, H25, z23, hF⟩ := bC_s hG; clear hG
      refine hp_callV_a (v := .int v24) (H1 := H25) (As := [.int 233]) (rest := []) d_MText_constant_173 (k_MText_is z23) (ab_mkC s_MText_is (Nat.le_of_ble_eq_true rfl) (Nat.le_of_ble_eq_true rfl) (Nat.le_refl 0) (Nat.le_refl 0)) (k10 180 rfl rfl) i_MText_is v_MText_is (by rw [(s_4).1]; exact q14) (by decide) rfl rfl (Nat.le_of_ble_eq_true rfl) ?_
      have s_5 : Sa H H25 := (s_4).tr (m_MText_is z23)
      refine ab_if_eq (tgt := 192) d_MText_constant_176 (by decide) (fun q26 => ?_) (fun q26 => ?_)
      · rw [if_pos q26] at hF
        refine ab_iload_n d_MText_constant_192 rfl rfl ?_
        refine ab_iconst (v := 3) d_MText_constant_193 (by decide) ?_
        refine ab_icmp_ne (tgt := 201) d_MText_constant_194 (by decide) (fun q27 => ?_) (fun q27 => ?_)
        · rw [if_neg q27] at hF
          refine ab_iconst (v := 0) d_MText_constant_201 (by decide) ?_
          exact kB_MText_constant_202 hF
        · rw [if_pos q27] at hF
          refine ab_iconst (v := 1) d_MText_constant_197 (by decide) ?_
          refine ab_goto (tgt := 202) d_MText_constant_198 (by decide) ?_
          exact kB_MText_constant_202 hF
      · rw [if_neg q26] at hF
        refine ab_iload_n d_MText_constant_179 rfl rfl ?_
        refine ab_iconst (v := 4) d_MText_constant_180 (by decide) ?_
        refine ab_icmp_ne (tgt := 188) d_MText_constant_181 (by decide) (fun q98 => ?_) (fun q98 => ?_)
        · rw [if_neg q98] at hF
          refine ab_iconst (v := 0) d_MText_constant_188 (by decide) ?_
          refine ab_goto (tgt := 202) d_MText_constant_189 (by decide) ?_
          exact kB_MText_constant_202 hF
        · rw [if_pos q98] at hF
          refine ab_iconst (v := 1) d_MText_constant_184 (by decide) ?_
          refine ab_goto (tgt := 202) d_MText_constant_185 (by decide) ?_
          exact kB_MText_constant_202 hF
    · rw [if_neg q22] at hG
      refine ab_iload_n d_MText_constant_156 rfl rfl ?_
      refine ab_iconst (v := 2) d_MText_constant_157 (by decide) ?_
      refine ab_icmp_ne (tgt := 165) d_MText_constant_158 (by decide) (fun q99 => ?_) (fun q99 => ?_)
      · rw [if_neg q99] at hG
        refine ab_iconst (v := 0) d_MText_constant_165 (by decide) ?_
        refine ab_goto (tgt := 202) d_MText_constant_166 (by decide) ?_
        exact kB_MText_constant_202 hG
      · rw [if_pos q99] at hG
        refine ab_iconst (v := 1) d_MText_constant_161 (by decide) ?_
        refine ab_goto (tgt := 202) d_MText_constant_162 (by decide) ?_
        exact kB_MText_constant_202 hG
  · rw [if_neg q18] at hF
    refine ab_iload_n d_MText_constant_131 rfl rfl ?_
    refine ab_if_eq (tgt := 140) d_MText_constant_132 (by decide) (fun q100 => ?_) (fun q100 => ?_)
    · rw [if_pos q100] at hF
      exact kB_MText_constant_140 hF
    · rw [if_neg q100] at hF
      refine ab_iload_n d_MText_constant_135 rfl rfl ?_
      refine ab_iconst (v := 1) d_MText_constant_136 (by decide) ?_
      refine ab_icmp_ne (tgt := 144) d_MText_constant_137 (by decide) (fun q101 => ?_) (fun q101 => ?_)
      · rw [if_neg q101] at hF
        refine ab_iconst (v := 0) d_MText_constant_144 (by decide) ?_
        refine ab_goto (tgt := 202) d_MText_constant_145 (by decide) ?_
        exact kB_MText_constant_202 hF
      · rw [if_pos q101] at hF
        exact kB_MText_constant_140 hF
def B_MText_constant_101 (N : Nat) (p0 : Nat) (p1 : Int32) (l2 : Int32) (l3 : Int32) (l4 : Int32) (l5 : Int32) (H : Hp) : Option (Int32 × Hp) :=
    if l5 = (0 : Int32) then
    B_MText_constant_123 N p0 p1 l2 l3 l4 l5 H
    else
    ck (H.sh[p0]? = some (14, 0)) <|
    rf (H.P p0 7) fun a121 =>
    ar H 102 a121 fun n123 =>
    ck (inb l4 n123) <|
    bnd ((H.D a121 (l4).toNatClampNeg)) fun x126 =>
    if x126 = (0 : Int32) then
    B_MText_constant_123 N p0 p1 l2 l3 l4 l5 H
    else
    bC (F_MText_fails N p0 (2 : Int32) l4 H) fun v129 H130 =>
    B_MText_constant_123 N p0 p1 l2 l3 l4 l5 H130
set_option maxRecDepth 20000 in
set_option maxHeartbeats 2000000 in
theorem mB_MText_constant_101 {N : Nat} {p0 : Nat} {p1 : Int32} {l2 : Int32} {l3 : Int32} {l4 : Int32} {l5 : Int32} {H : Hp} {r : Int32 × Hp} (hF : B_MText_constant_101 N p0 p1 l2 l3 l4 l5 H = some r) : Sa H r.2 := by
  unfold B_MText_constant_101 at hF
  have hm := Sa.rf H
  rcases ite_s hF with ⟨q_30, hG⟩ | ⟨q_30, hG⟩
  · clear hF
    exact hm.tr (mB_MText_constant_123 hG)
  · clear hF
    obtain ⟨q132, hF⟩ := ck_s hG; clear hG
    obtain ⟨a133, e134, hG⟩ := rf_s hF; clear hF
    obtain ⟨n135, q136, hF⟩ := ar_s hG; clear hG
    obtain ⟨q137, hG⟩ := ck_s hF; clear hF
    obtain ⟨x138, -, hF⟩ := bnd_g hG; clear hG
    rcases ite_s hF with ⟨q_31, hG⟩ | ⟨q_31, hG⟩
    · clear hF
      exact hm.tr (mB_MText_constant_123 hG)
    · clear hF
      obtain ⟨v141, H142, z140, hF⟩ := bC_s hG; clear hG
      replace hm : Sa H H142 := hm.tr (m_MText_fails z140)
      exact hm.tr (mB_MText_constant_123 hF)
set_option maxRecDepth 20000 in
set_option maxHeartbeats 2000000 in
theorem kB_MText_constant_101 {N : Nat} {p0 : Nat} {p1 : Int32} {l2 : Int32} {l3 : Int32} {l4 : Int32} {l5 : Int32} {H : Hp} {r : Int32 × Hp} (hF : B_MText_constant_101 N p0 p1 l2 l3 l4 l5 H = some r) : ab_V y_MText_constant { frames := 2, cells := 0, slots := 0, locals := 43 } (po (.returned (some (.int r.1))) r.2) 0 0 0 0 101 [some (.ref p0), some (.int p1), some (.int l2), some (.int l3), some (.int l4), some (.int l5), none, none, none] [] (hpw H) := by
  unfold B_MText_constant_101 at hF
  refine ab_iload d_MText_constant_101 rfl ?_
  refine ab_if_eq (tgt := 123) d_MText_constant_103 (by decide) (fun q13 => ?_) (fun q13 => ?_)
  · rw [if_pos q13] at hF
    exact kB_MText_constant_123 hF
  · rw [if_neg q13] at hF
    refine ab_aload_n d_MText_constant_106 rfl rfl rfl ?_
    obtain ⟨q120, hG⟩ := ck_s hF; clear hF
    obtain ⟨a121, e122, hF⟩ := rf_s hG; clear hG
    refine hp_getR (f := 7) d_MText_constant_107 q120 (by decide) rfl (by decide) (k8 168 rfl rfl) rfl e122 ?_
    refine ab_iload d_MText_constant_110 rfl ?_
    obtain ⟨n123, q124, hG⟩ := ar_s hF; clear hF
    obtain ⟨q125, hF⟩ := ck_s hG; clear hG
    refine hp_zald d_MText_constant_112 tZ q124 q125 ?_
    refine ab_topi (fun x126 ex126 => ?_)
    replace hF := bnd_s ex126 hF
    refine ab_if_eq (tgt := 123) d_MText_constant_113 (by decide) (fun q127 => ?_) (fun q127 => ?_)
    · rw [if_pos q127] at hF
      exact kB_MText_constant_123 hF
    · rw [if_neg q127] at hF
      refine ab_aload_n d_MText_constant_116 rfl rfl rfl ?_
      refine ab_iconst (v := 2) d_MText_constant_117 (by decide) ?_
      refine ab_iload d_MText_constant_118 rfl ?_
      obtain ⟨v129, H130, z128, hG⟩ := bC_s hF; clear hF
      refine hp_callV_v (H1 := H130) (As := [.int 2, .int l4]) (rest := []) d_MText_constant_120 (k_MText_fails z128) (ab_mkC s_MText_fails (Nat.le_of_ble_eq_true rfl) (Nat.le_of_ble_eq_true rfl) (Nat.le_refl 0) (Nat.le_refl 0)) (k10 160 rfl rfl) i_MText_fails v_MText_fails q120 (by decide) rfl rfl (Nat.le_of_ble_eq_true rfl) ?_
      have s_29 : Sa H H130 := (m_MText_fails z128)
      exact kB_MText_constant_123 hG
def B_MText_constant_80 (N : Nat) (p0 : Nat) (p1 : Int32) (l2 : Int32) (l3 : Int32) (l4 : Int32) (l5 : Int32) (w0 : Int32) (H : Hp) : Option (Int32 × Hp) :=
    if l5 = (0 : Int32) then
    if w0 = (0 : Int32) then
    ck (H.sh[p0]? = some (14, 0)) <|
    bnd ((H.D p0 11)) fun x145 =>
    bC (F_MText_fails N p0 (1 : Int32) x145 H) fun v147 H148 =>
    B_MText_constant_101 N p0 p1 l2 l3 l4 l5 H148
    else
    B_MText_constant_101 N p0 p1 l2 l3 l4 l5 H
    else
    B_MText_constant_101 N p0 p1 l2 l3 l4 l5 H
set_option maxRecDepth 20000 in
set_option maxHeartbeats 2000000 in
theorem mB_MText_constant_80 {N : Nat} {p0 : Nat} {p1 : Int32} {l2 : Int32} {l3 : Int32} {l4 : Int32} {l5 : Int32} {w0 : Int32} {H : Hp} {r : Int32 × Hp} (hF : B_MText_constant_80 N p0 p1 l2 l3 l4 l5 w0 H = some r) : Sa H r.2 := by
  unfold B_MText_constant_80 at hF
  have hm := Sa.rf H
  rcases ite_s hF with ⟨q_34, hG⟩ | ⟨q_34, hG⟩
  · clear hF
    rcases ite_s hG with ⟨q_35, hF⟩ | ⟨q_35, hF⟩
    · clear hG
      obtain ⟨q151, hG⟩ := ck_s hF; clear hF
      obtain ⟨x152, -, hF⟩ := bnd_g hG; clear hG
      obtain ⟨v154, H155, z153, hG⟩ := bC_s hF; clear hF
      replace hm : Sa H H155 := hm.tr (m_MText_fails z153)
      exact hm.tr (mB_MText_constant_101 hG)
    · clear hG
      exact hm.tr (mB_MText_constant_101 hF)
  · clear hF
    exact hm.tr (mB_MText_constant_101 hG)
set_option maxRecDepth 20000 in
set_option maxHeartbeats 2000000 in
theorem kB_MText_constant_80 {N : Nat} {p0 : Nat} {p1 : Int32} {l2 : Int32} {l3 : Int32} {l4 : Int32} {l5 : Int32} {w0 : Int32} {H : Hp} {r : Int32 × Hp} (hF : B_MText_constant_80 N p0 p1 l2 l3 l4 l5 w0 H = some r) : ab_V y_MText_constant { frames := 2, cells := 0, slots := 0, locals := 43 } (po (.returned (some (.int r.1))) r.2) 0 0 0 0 80 [some (.ref p0), some (.int p1), some (.int l2), some (.int l3), some (.int l4), some (.int l5), none, none, none] [.int w0] (hpw H) := by
  unfold B_MText_constant_80 at hF
  refine ab_istore (lv' := [some (.ref p0), some (.int p1), some (.int l2), some (.int l3), some (.int l4), some (.int l5), some (.int w0), none, none]) d_MText_constant_80 (by decide) rfl ?_
  refine ab_iload d_MText_constant_82 rfl ?_
  refine ab_if_ne (tgt := 101) d_MText_constant_84 (by decide) (fun q12 => ?_) (fun q12 => ?_)
  · rw [if_neg q12] at hF
    refine ab_le (lv' := [some (.ref p0), some (.int p1), some (.int l2), some (.int l3), some (.int l4), some (.int l5), none, none, none]) ⟨rfl, ⟨rfl, ⟨rfl, ⟨rfl, ⟨rfl, ⟨rfl, trivial⟩⟩⟩⟩⟩⟩ ?_
    exact kB_MText_constant_101 hF
  · rw [if_pos q12] at hF
    refine ab_iload d_MText_constant_87 rfl ?_
    refine ab_if_ne (tgt := 101) d_MText_constant_89 (by decide) (fun q143 => ?_) (fun q143 => ?_)
    · rw [if_neg q143] at hF
      refine ab_le (lv' := [some (.ref p0), some (.int p1), some (.int l2), some (.int l3), some (.int l4), some (.int l5), none, none, none]) ⟨rfl, ⟨rfl, ⟨rfl, ⟨rfl, ⟨rfl, ⟨rfl, trivial⟩⟩⟩⟩⟩⟩ ?_
      exact kB_MText_constant_101 hF
    · rw [if_pos q143] at hF
      refine ab_aload_n d_MText_constant_92 rfl rfl rfl ?_
      refine ab_iconst (v := 1) d_MText_constant_93 (by decide) ?_
      refine ab_aload_n d_MText_constant_94 rfl rfl rfl ?_
      obtain ⟨q144, hG⟩ := ck_s hF; clear hF
      refine hp_getI (f := 11) d_MText_constant_95 q144 (by decide) rfl (by decide) (k8 175 rfl rfl) rfl ?_
      refine ab_topi (fun x145 ex145 => ?_)
      replace hG := bnd_s ex145 hG
      obtain ⟨v147, H148, z146, hF⟩ := bC_s hG; clear hG
      refine hp_callV_v (H1 := H148) (As := [.int 1, .int x145]) (rest := []) d_MText_constant_98 (k_MText_fails z146) (ab_mkC s_MText_fails (Nat.le_of_ble_eq_true rfl) (Nat.le_of_ble_eq_true rfl) (Nat.le_refl 0) (Nat.le_refl 0)) (k10 160 rfl rfl) i_MText_fails v_MText_fails q144 (by decide) rfl rfl (Nat.le_of_ble_eq_true rfl) ?_
      have s_33 : Sa H H148 := (m_MText_fails z146)
      refine ab_le (lv' := [some (.ref p0), some (.int p1), some (.int l2), some (.int l3), some (.int l4), some (.int l5), none, none, none]) ⟨rfl, ⟨rfl, ⟨rfl, ⟨rfl, ⟨rfl, ⟨rfl, trivial⟩⟩⟩⟩⟩⟩ ?_
      exact kB_MText_constant_101 hF
def B_MText_constant_79 (N : Nat) (p0 : Nat) (p1 : Int32) (l2 : Int32) (l3 : Int32) (l4 : Int32) (l5 : Int32) (H : Hp) : Option (Int32 × Hp) :=
    B_MText_constant_80 N p0 p1 l2 l3 l4 l5 0 H
set_option maxRecDepth 20000 in
set_option maxHeartbeats 2000000 in
theorem mB_MText_constant_79 {N : Nat} {p0 : Nat} {p1 : Int32} {l2 : Int32} {l3 : Int32} {l4 : Int32} {l5 : Int32} {H : Hp} {r : Int32 × Hp} (hF : B_MText_constant_79 N p0 p1 l2 l3 l4 l5 H = some r) : Sa H r.2 := by
  unfold B_MText_constant_79 at hF
  have hm := Sa.rf H
  exact hm.tr (mB_MText_constant_80 hF)
set_option maxRecDepth 20000 in
set_option maxHeartbeats 2000000 in
theorem kB_MText_constant_79 {N : Nat} {p0 : Nat} {p1 : Int32} {l2 : Int32} {l3 : Int32} {l4 : Int32} {l5 : Int32} {H : Hp} {r : Int32 × Hp} (hF : B_MText_constant_79 N p0 p1 l2 l3 l4 l5 H = some r) : ab_V y_MText_constant { frames := 2, cells := 0, slots := 0, locals := 43 } (po (.returned (some (.int r.1))) r.2) 0 0 0 0 79 [some (.ref p0), some (.int p1), some (.int l2), some (.int l3), some (.int l4), some (.int l5), none, none, none] [] (hpw H) := by
  unfold B_MText_constant_79 at hF
  refine ab_iconst (v := 0) d_MText_constant_79 (by decide) ?_
  exact kB_MText_constant_80 hF
def B_MText_constant_75 (N : Nat) (p0 : Nat) (p1 : Int32) (l2 : Int32) (l3 : Int32) (l4 : Int32) (l5 : Int32) (H : Hp) : Option (Int32 × Hp) :=
    B_MText_constant_80 N p0 p1 l2 l3 l4 l5 1 H
set_option maxRecDepth 20000 in
set_option maxHeartbeats 2000000 in
theorem mB_MText_constant_75 {N : Nat} {p0 : Nat} {p1 : Int32} {l2 : Int32} {l3 : Int32} {l4 : Int32} {l5 : Int32} {H : Hp} {r : Int32 × Hp} (hF : B_MText_constant_75 N p0 p1 l2 l3 l4 l5 H = some r) : Sa H r.2 := by
  unfold B_MText_constant_75 at hF
  have hm := Sa.rf H
  exact hm.tr (mB_MText_constant_80 hF)
set_option maxRecDepth 20000 in
set_option maxHeartbeats 2000000 in
theorem kB_MText_constant_75 {N : Nat} {p0 : Nat} {p1 : Int32} {l2 : Int32} {l3 : Int32} {l4 : Int32} {l5 : Int32} {H : Hp} {r : Int32 × Hp} (hF : B_MText_constant_75 N p0 p1 l2 l3 l4 l5 H = some r) : ab_V y_MText_constant { frames := 2, cells := 0, slots := 0, locals := 43 } (po (.returned (some (.int r.1))) r.2) 0 0 0 0 75 [some (.ref p0), some (.int p1), some (.int l2), some (.int l3), some (.int l4), some (.int l5), none, none, none] [] (hpw H) := by
  unfold B_MText_constant_75 at hF
  refine ab_iconst (v := 1) d_MText_constant_75 (by decide) ?_
  refine ab_goto (tgt := 80) d_MText_constant_76 (by decide) ?_
  exact kB_MText_constant_80 hF
def B_MText_constant_39 (N : Nat) (p0 : Nat) (p1 : Int32) (l2 : Int32) (l3 : Int32) (l4 : Int32) (w0 : Int32) (H : Hp) : Option (Int32 × Hp) :=
    if l3 = (0 : Int32) then
    ck (H.sh[p0]? = some (14, 0)) <|
    bC (F_MText_is N p0 (231 : Int32) H) fun v158 H159 =>
    if v158 = (0 : Int32) then
    bC (F_MText_is N p0 (232 : Int32) H159) fun v162 H163 =>
    if v162 = (0 : Int32) then
    bC (F_MText_is N p0 (233 : Int32) H163) fun v166 H167 =>
    if v166 = (0 : Int32) then
    B_MText_constant_79 N p0 p1 l2 l3 l4 w0 H167
    else
    B_MText_constant_75 N p0 p1 l2 l3 l4 w0 H167
    else
    B_MText_constant_75 N p0 p1 l2 l3 l4 w0 H163
    else
    B_MText_constant_75 N p0 p1 l2 l3 l4 w0 H159
    else
    B_MText_constant_79 N p0 p1 l2 l3 l4 w0 H
set_option maxRecDepth 20000 in
set_option maxHeartbeats 2000000 in
theorem mB_MText_constant_39 {N : Nat} {p0 : Nat} {p1 : Int32} {l2 : Int32} {l3 : Int32} {l4 : Int32} {w0 : Int32} {H : Hp} {r : Int32 × Hp} (hF : B_MText_constant_39 N p0 p1 l2 l3 l4 w0 H = some r) : Sa H r.2 := by
  unfold B_MText_constant_39 at hF
  have hm := Sa.rf H
  rcases ite_s hF with ⟨q_40, hG⟩ | ⟨q_40, hG⟩
  · clear hF
    obtain ⟨q170, hF⟩ := ck_s hG; clear hG
    obtain ⟨v172, H173, z171, hG⟩ := bC_s hF; clear hF
    replace hm : Sa H H173 := hm.tr (m_MText_is z171)
    rcases ite_s hG with ⟨q_42, hF⟩ | ⟨q_42, hF⟩
    · clear hG
      obtain ⟨v176, H177, z175, hG⟩ := bC_s hF; clear hF
      replace hm : Sa H H177 := hm.tr (m_MText_is z175)
      rcases ite_s hG with ⟨q_44, hF⟩ | ⟨q_44, hF⟩
      · clear hG
        obtain ⟨v180, H181, z179, hG⟩ := bC_s hF; clear hF
        replace hm : Sa H H181 := hm.tr (m_MText_is z179)
        rcases ite_s hG with ⟨q_46, hF⟩ | ⟨q_46, hF⟩
        · clear hG
          exact hm.tr (mB_MText_constant_79 hF)
        · clear hG
          exact hm.tr (mB_MText_constant_75 hF)
      · clear hG
        exact hm.tr (mB_MText_constant_75 hF)
    · clear hG
      exact hm.tr (mB_MText_constant_75 hF)
  · clear hF
    exact hm.tr (mB_MText_constant_79 hG)
set_option maxRecDepth 20000 in
set_option maxHeartbeats 2000000 in
theorem kB_MText_constant_39 {N : Nat} {p0 : Nat} {p1 : Int32} {l2 : Int32} {l3 : Int32} {l4 : Int32} {w0 : Int32} {H : Hp} {r : Int32 × Hp} (hF : B_MText_constant_39 N p0 p1 l2 l3 l4 w0 H = some r) : ab_V y_MText_constant { frames := 2, cells := 0, slots := 0, locals := 43 } (po (.returned (some (.int r.1))) r.2) 0 0 0 0 39 [some (.ref p0), some (.int p1), some (.int l2), some (.int l3), some (.int l4), none, none, none, none] [.int w0] (hpw H) := by
  unfold B_MText_constant_39 at hF
  refine ab_istore (lv' := [some (.ref p0), some (.int p1), some (.int l2), some (.int l3), some (.int l4), some (.int w0), none, none, none]) d_MText_constant_39 (by decide) rfl ?_
  refine ab_iload_n d_MText_constant_41 rfl rfl ?_
  refine ab_if_ne (tgt := 79) d_MText_constant_42 (by decide) (fun q11 => ?_) (fun q11 => ?_)
  · rw [if_neg q11] at hF
    exact kB_MText_constant_79 hF
  · rw [if_pos q11] at hF
    refine ab_aload_n d_MText_constant_45 rfl rfl rfl ?_
    refine ab_sipush (v := 231) d_MText_constant_46 (by decide) ?_
    obtain ⟨q156, hG⟩ := ck_s hF; clear hF
    obtain ⟨v158, H159, z157, hF⟩ := bC_s hG; clear hG
    refine hp_callV_a (v := .int v158) (H1 := H159) (As := [.int 231]) (rest := []) d_MText_constant_49 (k_MText_is z157) (ab_mkC s_MText_is (Nat.le_of_ble_eq_true rfl) (Nat.le_of_ble_eq_true rfl) (Nat.le_refl 0) (Nat.le_refl 0)) (k10 180 rfl rfl) i_MText_is v_MText_is q156 (by decide) rfl rfl (Nat.le_of_ble_eq_true rfl) ?_
    have s_37 : Sa H H159 := (m_MText_is z157)
    refine ab_if_ne (tgt := 75) d_MText_constant_52 (by decide) (fun q160 => ?_) (fun q160 => ?_)
    · rw [if_neg q160] at hF
      exact kB_MText_constant_75 hF
    · rw [if_pos q160] at hF
      refine ab_aload_n d_MText_constant_55 rfl rfl rfl ?_
      refine ab_sipush (v := 232) d_MText_constant_56 (by decide) ?_
      obtain ⟨v162, H163, z161, hG⟩ := bC_s hF; clear hF
      refine hp_callV_a (v := .int v162) (H1 := H163) (As := [.int 232]) (rest := []) d_MText_constant_59 (k_MText_is z161) (ab_mkC s_MText_is (Nat.le_of_ble_eq_true rfl) (Nat.le_of_ble_eq_true rfl) (Nat.le_refl 0) (Nat.le_refl 0)) (k10 180 rfl rfl) i_MText_is v_MText_is (by rw [(s_37).1]; exact q156) (by decide) rfl rfl (Nat.le_of_ble_eq_true rfl) ?_
      have s_38 : Sa H H163 := (s_37).tr (m_MText_is z161)
      refine ab_if_ne (tgt := 75) d_MText_constant_62 (by decide) (fun q164 => ?_) (fun q164 => ?_)
      · rw [if_neg q164] at hG
        exact kB_MText_constant_75 hG
      · rw [if_pos q164] at hG
        refine ab_aload_n d_MText_constant_65 rfl rfl rfl ?_
        refine ab_sipush (v := 233) d_MText_constant_66 (by decide) ?_
        obtain ⟨v166, H167, z165, hF⟩ := bC_s hG; clear hG
        refine hp_callV_a (v := .int v166) (H1 := H167) (As := [.int 233]) (rest := []) d_MText_constant_69 (k_MText_is z165) (ab_mkC s_MText_is (Nat.le_of_ble_eq_true rfl) (Nat.le_of_ble_eq_true rfl) (Nat.le_refl 0) (Nat.le_refl 0)) (k10 180 rfl rfl) i_MText_is v_MText_is (by rw [(s_38).1]; exact q156) (by decide) rfl rfl (Nat.le_of_ble_eq_true rfl) ?_
        have s_39 : Sa H H167 := (s_38).tr (m_MText_is z165)
        refine ab_if_eq (tgt := 79) d_MText_constant_72 (by decide) (fun q168 => ?_) (fun q168 => ?_)
        · rw [if_pos q168] at hF
          exact kB_MText_constant_79 hF
        · rw [if_neg q168] at hF
          exact kB_MText_constant_75 hF
def B_MText_constant_34 (N : Nat) (p0 : Nat) (p1 : Int32) (l2 : Int32) (l3 : Int32) (l4 : Int32) (H : Hp) : Option (Int32 × Hp) :=
    B_MText_constant_39 N p0 p1 l2 l3 l4 1 H
set_option maxRecDepth 20000 in
set_option maxHeartbeats 2000000 in
theorem mB_MText_constant_34 {N : Nat} {p0 : Nat} {p1 : Int32} {l2 : Int32} {l3 : Int32} {l4 : Int32} {H : Hp} {r : Int32 × Hp} (hF : B_MText_constant_34 N p0 p1 l2 l3 l4 H = some r) : Sa H r.2 := by
  unfold B_MText_constant_34 at hF
  have hm := Sa.rf H
  exact hm.tr (mB_MText_constant_39 hF)
set_option maxRecDepth 20000 in
set_option maxHeartbeats 2000000 in
theorem kB_MText_constant_34 {N : Nat} {p0 : Nat} {p1 : Int32} {l2 : Int32} {l3 : Int32} {l4 : Int32} {H : Hp} {r : Int32 × Hp} (hF : B_MText_constant_34 N p0 p1 l2 l3 l4 H = some r) : ab_V y_MText_constant { frames := 2, cells := 0, slots := 0, locals := 43 } (po (.returned (some (.int r.1))) r.2) 0 0 0 0 34 [some (.ref p0), some (.int p1), some (.int l2), some (.int l3), some (.int l4), none, none, none, none] [] (hpw H) := by
  unfold B_MText_constant_34 at hF
  refine ab_iconst (v := 1) d_MText_constant_34 (by decide) ?_
  refine ab_goto (tgt := 39) d_MText_constant_35 (by decide) ?_
  exact kB_MText_constant_39 hF
def F_MText_constant (N : Nat) (p0 : Nat) (p1 : Int32) (H : Hp) : Option (Int32 × Hp) :=
    ck (H.sh[p0]? = some (14, 0)) <|
    bnd ((H.D p0 11)) fun x2 =>
    bC (F_MText_accepts N p0 (45 : Int32) H) fun v4 H5 =>
    bnd ((H5.D p0 11)) fun x6 =>
    bC (F_MText_is N p0 (2 : Int32) H5) fun v8 H9 =>
    if v8 = (0 : Int32) then
    bC (F_MText_is N p0 (3 : Int32) H9) fun v184 H185 =>
    if v184 = (0 : Int32) then
    B_MText_constant_39 N p0 p1 x2 v4 x6 0 H185
    else
    B_MText_constant_34 N p0 p1 x2 v4 x6 H185
    else
    B_MText_constant_34 N p0 p1 x2 v4 x6 H9
set_option maxRecDepth 20000 in
set_option maxHeartbeats 2000000 in
theorem m_MText_constant {N : Nat} {p0 : Nat} {p1 : Int32} {H : Hp} {r : Int32 × Hp} (hF : F_MText_constant N p0 p1 H = some r) : Sa H r.2 := by
  unfold F_MText_constant at hF
  have hm := Sa.rf H
  obtain ⟨q187, hG⟩ := ck_s hF; clear hF
  obtain ⟨x188, -, hF⟩ := bnd_g hG; clear hG
  obtain ⟨v190, H191, z189, hG⟩ := bC_s hF; clear hF
  replace hm : Sa H H191 := hm.tr (m_MText_accepts z189)
  obtain ⟨x192, -, hF⟩ := bnd_g hG; clear hG
  obtain ⟨v194, H195, z193, hG⟩ := bC_s hF; clear hF
  replace hm : Sa H H195 := hm.tr (m_MText_is z193)
  rcases ite_s hG with ⟨q_50, hF⟩ | ⟨q_50, hF⟩
  · clear hG
    obtain ⟨v198, H199, z197, hG⟩ := bC_s hF; clear hF
    replace hm : Sa H H199 := hm.tr (m_MText_is z197)
    rcases ite_s hG with ⟨q_52, hF⟩ | ⟨q_52, hF⟩
    · clear hG
      exact hm.tr (mB_MText_constant_39 hF)
    · clear hG
      exact hm.tr (mB_MText_constant_34 hF)
  · clear hG
    exact hm.tr (mB_MText_constant_34 hF)
set_option maxRecDepth 20000 in
set_option maxHeartbeats 2000000 in
theorem k_MText_constant {N : Nat} {p0 : Nat} {p1 : Int32} {H : Hp} {r : Int32 × Hp} (hF : F_MText_constant N p0 p1 H = some r) : ab_M y_MText_constant { frames := 2, cells := 0, slots := 0, locals := 43 } [.ref p0, .int p1] (hpw H) (po (.returned (some (.int r.1))) r.2) := by
  unfold F_MText_constant at hF
  refine ab_of2 (lv := [some (.ref p0), some (.int p1), none, none, none, none, none, none, none]) 7 rfl rfl (Nat.le_of_ble_eq_true rfl) ?_
  refine ab_aload_n d_MText_constant_0 rfl rfl rfl ?_
  obtain ⟨q1, hG⟩ := ck_s hF; clear hF
  refine hp_getI (f := 11) d_MText_constant_1 q1 (by decide) rfl (by decide) (k8 175 rfl rfl) rfl ?_
  refine ab_topi (fun x2 ex2 => ?_)
  replace hG := bnd_s ex2 hG
  refine ab_istore_n (lv' := [some (.ref p0), some (.int p1), some (.int x2), none, none, none, none, none, none]) d_MText_constant_4 rfl (by decide) rfl ?_
  refine ab_aload_n d_MText_constant_5 rfl rfl rfl ?_
  refine ab_bipush (v := 45) d_MText_constant_6 (by decide) ?_
  obtain ⟨v4, H5, z3, hF⟩ := bC_s hG; clear hG
  refine hp_callV_a (v := .int v4) (H1 := H5) (As := [.int 45]) (rest := []) d_MText_constant_8 (k_MText_accepts z3) (ab_mkC s_MText_accepts (Nat.le_of_ble_eq_true rfl) (Nat.le_of_ble_eq_true rfl) (Nat.le_refl 0) (Nat.le_refl 0)) (k10 176 rfl rfl) i_MText_accepts v_MText_accepts q1 (by decide) rfl rfl (Nat.le_of_ble_eq_true rfl) ?_
  have s_1 : Sa H H5 := (m_MText_accepts z3)
  refine ab_istore_n (lv' := [some (.ref p0), some (.int p1), some (.int x2), some (.int v4), none, none, none, none, none]) d_MText_constant_11 rfl (by decide) rfl ?_
  refine ab_aload_n d_MText_constant_12 rfl rfl rfl ?_
  refine hp_getI (f := 11) d_MText_constant_13 (by rw [(s_1).1]; exact q1) (by decide) rfl (by decide) (k8 175 rfl rfl) rfl ?_
  refine ab_topi (fun x6 ex6 => ?_)
  replace hF := bnd_s ex6 hF
  refine ab_istore (lv' := [some (.ref p0), some (.int p1), some (.int x2), some (.int v4), some (.int x6), none, none, none, none]) d_MText_constant_16 (by decide) rfl ?_
  refine ab_aload_n d_MText_constant_18 rfl rfl rfl ?_
  refine ab_iconst (v := 2) d_MText_constant_19 (by decide) ?_
  obtain ⟨v8, H9, z7, hG⟩ := bC_s hF; clear hF
  refine hp_callV_a (v := .int v8) (H1 := H9) (As := [.int 2]) (rest := []) d_MText_constant_20 (k_MText_is z7) (ab_mkC s_MText_is (Nat.le_of_ble_eq_true rfl) (Nat.le_of_ble_eq_true rfl) (Nat.le_refl 0) (Nat.le_refl 0)) (k10 180 rfl rfl) i_MText_is v_MText_is (by rw [(s_1).1]; exact q1) (by decide) rfl rfl (Nat.le_of_ble_eq_true rfl) ?_
  have s_2 : Sa H H9 := (s_1).tr (m_MText_is z7)
  refine ab_if_ne (tgt := 34) d_MText_constant_23 (by decide) (fun q10 => ?_) (fun q10 => ?_)
  · rw [if_neg q10] at hG
    exact kB_MText_constant_34 hG
  · rw [if_pos q10] at hG
    refine ab_aload_n d_MText_constant_26 rfl rfl rfl ?_
    refine ab_iconst (v := 3) d_MText_constant_27 (by decide) ?_
    obtain ⟨v184, H185, z183, hF⟩ := bC_s hG; clear hG
    refine hp_callV_a (v := .int v184) (H1 := H185) (As := [.int 3]) (rest := []) d_MText_constant_28 (k_MText_is z183) (ab_mkC s_MText_is (Nat.le_of_ble_eq_true rfl) (Nat.le_of_ble_eq_true rfl) (Nat.le_refl 0) (Nat.le_refl 0)) (k10 180 rfl rfl) i_MText_is v_MText_is (by rw [(s_2).1]; exact q1) (by decide) rfl rfl (Nat.le_of_ble_eq_true rfl) ?_
    have s_47 : Sa H H185 := (s_2).tr (m_MText_is z183)
    refine ab_if_eq (tgt := 38) d_MText_constant_31 (by decide) (fun q186 => ?_) (fun q186 => ?_)
    · rw [if_pos q186] at hF
      refine ab_iconst (v := 0) d_MText_constant_38 (by decide) ?_
      exact kB_MText_constant_39 hF
    · rw [if_neg q186] at hF
      exact kB_MText_constant_34 hF
def y_MText_values : ab_Y := (⟨"WorldEngineModel$Text", "values", "(II)V"⟩, prog_16_method_32_code, 7, none, [])
theorem d_MText_values_0 : decode y_MText_values.2.1 0 = .ok (.iconst 0, 1) := by decide +kernel
theorem d_MText_values_1 : decode y_MText_values.2.1 1 = .ok (.istore_n 3, 1) := by decide +kernel
theorem d_MText_values_2 : decode y_MText_values.2.1 2 = .ok (.iconst 1, 1) := by decide +kernel
theorem d_MText_values_3 : decode y_MText_values.2.1 3 = .ok (.istore 4, 2) := by decide +kernel
theorem d_MText_values_5 : decode y_MText_values.2.1 5 = .ok (.aload_n 0, 1) := by decide +kernel
theorem d_MText_values_6 : decode y_MText_values.2.1 6 = .ok (.getfield 185, 3) := by decide +kernel
theorem d_MText_values_9 : decode y_MText_values.2.1 9 = .ok (.ifCond .ne 138, 3) := by decide +kernel
theorem d_MText_values_12 : decode y_MText_values.2.1 12 = .ok (.iload 4, 2) := by decide +kernel
theorem d_MText_values_14 : decode y_MText_values.2.1 14 = .ok (.ifCond .eq 133, 3) := by decide +kernel
theorem d_MText_values_17 : decode y_MText_values.2.1 17 = .ok (.aload_n 0, 1) := by decide +kernel
theorem d_MText_values_18 : decode y_MText_values.2.1 18 = .ok (.invokevirtual 240, 3) := by decide +kernel
theorem d_MText_values_21 : decode y_MText_values.2.1 21 = .ok (.istore 5, 2) := by decide +kernel
theorem d_MText_values_23 : decode y_MText_values.2.1 23 = .ok (.aload_n 0, 1) := by decide +kernel
theorem d_MText_values_24 : decode y_MText_values.2.1 24 = .ok (.getfield 185, 3) := by decide +kernel
theorem d_MText_values_27 : decode y_MText_values.2.1 27 = .ok (.ifCond .ne 14, 3) := by decide +kernel
theorem d_MText_values_30 : decode y_MText_values.2.1 30 = .ok (.aload_n 0, 1) := by decide +kernel
theorem d_MText_values_31 : decode y_MText_values.2.1 31 = .ok (.iload_n 2, 1) := by decide +kernel
theorem d_MText_values_32 : decode y_MText_values.2.1 32 = .ok (.aload_n 0, 1) := by decide +kernel
theorem d_MText_values_33 : decode y_MText_values.2.1 33 = .ok (.iload 5, 2) := by decide +kernel
theorem d_MText_values_35 : decode y_MText_values.2.1 35 = .ok (.invokevirtual 256, 3) := by decide +kernel
theorem d_MText_values_38 : decode y_MText_values.2.1 38 = .ok (.goto 4, 3) := by decide +kernel
theorem d_MText_values_41 : decode y_MText_values.2.1 41 = .ok (.iconst (-1), 1) := by decide +kernel
theorem d_MText_values_42 : decode y_MText_values.2.1 42 = .ok (.istore 6, 2) := by decide +kernel
theorem d_MText_values_44 : decode y_MText_values.2.1 44 = .ok (.iload 6, 2) := by decide +kernel
theorem d_MText_values_46 : decode y_MText_values.2.1 46 = .ok (.ifCond .lt 27, 3) := by decide +kernel
theorem d_MText_values_49 : decode y_MText_values.2.1 49 = .ok (.iload_n 3, 1) := by decide +kernel
theorem d_MText_values_50 : decode y_MText_values.2.1 50 = .ok (.iload 6, 2) := by decide +kernel
theorem d_MText_values_52 : decode y_MText_values.2.1 52 = .ok (.aload_n 0, 1) := by decide +kernel
theorem d_MText_values_53 : decode y_MText_values.2.1 53 = .ok (.getfield 47, 3) := by decide +kernel
theorem d_MText_values_56 : decode y_MText_values.2.1 56 = .ok (.iload_n 2, 1) := by decide +kernel
theorem d_MText_values_57 : decode y_MText_values.2.1 57 = .ok (.iaload, 1) := by decide +kernel
theorem d_MText_values_58 : decode y_MText_values.2.1 58 = .ok (.isub, 1) := by decide +kernel
theorem d_MText_values_59 : decode y_MText_values.2.1 59 = .ok (.ishr, 1) := by decide +kernel
theorem d_MText_values_60 : decode y_MText_values.2.1 60 = .ok (.iconst 1, 1) := by decide +kernel
theorem d_MText_values_61 : decode y_MText_values.2.1 61 = .ok (.iand, 1) := by decide +kernel
theorem d_MText_values_62 : decode y_MText_values.2.1 62 = .ok (.iconst 1, 1) := by decide +kernel
theorem d_MText_values_63 : decode y_MText_values.2.1 63 = .ok (.if_icmp .ne 10, 3) := by decide +kernel
theorem d_MText_values_66 : decode y_MText_values.2.1 66 = .ok (.aload_n 0, 1) := by decide +kernel
theorem d_MText_values_67 : decode y_MText_values.2.1 67 = .ok (.iconst 3, 1) := by decide +kernel
theorem d_MText_values_68 : decode y_MText_values.2.1 68 = .ok (.iload 5, 2) := by decide +kernel
theorem d_MText_values_70 : decode y_MText_values.2.1 70 = .ok (.invokevirtual 200, 3) := by decide +kernel
theorem d_MText_values_73 : decode y_MText_values.2.1 73 = .ok (.iload 6, 2) := by decide +kernel
theorem d_MText_values_75 : decode y_MText_values.2.1 75 = .ok (.ifCond .ge 10, 3) := by decide +kernel
theorem d_MText_values_78 : decode y_MText_values.2.1 78 = .ok (.aload_n 0, 1) := by decide +kernel
theorem d_MText_values_79 : decode y_MText_values.2.1 79 = .ok (.iconst 4, 1) := by decide +kernel
theorem d_MText_values_80 : decode y_MText_values.2.1 80 = .ok (.iload 5, 2) := by decide +kernel
theorem d_MText_values_82 : decode y_MText_values.2.1 82 = .ok (.invokevirtual 200, 3) := by decide +kernel
theorem d_MText_values_85 : decode y_MText_values.2.1 85 = .ok (.aload_n 0, 1) := by decide +kernel
theorem d_MText_values_86 : decode y_MText_values.2.1 86 = .ok (.bipush 61, 2) := by decide +kernel
theorem d_MText_values_88 : decode y_MText_values.2.1 88 = .ok (.invokevirtual 204, 3) := by decide +kernel
theorem d_MText_values_91 : decode y_MText_values.2.1 91 = .ok (.aload_n 0, 1) := by decide +kernel
theorem d_MText_values_92 : decode y_MText_values.2.1 92 = .ok (.getfield 185, 3) := by decide +kernel
theorem d_MText_values_95 : decode y_MText_values.2.1 95 = .ok (.ifCond .le 4, 3) := by decide +kernel
theorem d_MText_values_98 : decode y_MText_values.2.1 98 = .ok (.return_, 1) := by decide +kernel
theorem d_MText_values_99 : decode y_MText_values.2.1 99 = .ok (.iload_n 3, 1) := by decide +kernel
theorem d_MText_values_100 : decode y_MText_values.2.1 100 = .ok (.iconst 1, 1) := by decide +kernel
theorem d_MText_values_101 : decode y_MText_values.2.1 101 = .ok (.iload 6, 2) := by decide +kernel
theorem d_MText_values_103 : decode y_MText_values.2.1 103 = .ok (.aload_n 0, 1) := by decide +kernel
theorem d_MText_values_104 : decode y_MText_values.2.1 104 = .ok (.getfield 47, 3) := by decide +kernel
theorem d_MText_values_107 : decode y_MText_values.2.1 107 = .ok (.iload_n 2, 1) := by decide +kernel
theorem d_MText_values_108 : decode y_MText_values.2.1 108 = .ok (.iaload, 1) := by decide +kernel
theorem d_MText_values_109 : decode y_MText_values.2.1 109 = .ok (.isub, 1) := by decide +kernel
theorem d_MText_values_110 : decode y_MText_values.2.1 110 = .ok (.ishl, 1) := by decide +kernel
theorem d_MText_values_111 : decode y_MText_values.2.1 111 = .ok (.ior, 1) := by decide +kernel
theorem d_MText_values_112 : decode y_MText_values.2.1 112 = .ok (.istore_n 3, 1) := by decide +kernel
theorem d_MText_values_113 : decode y_MText_values.2.1 113 = .ok (.aload_n 0, 1) := by decide +kernel
theorem d_MText_values_114 : decode y_MText_values.2.1 114 = .ok (.getfield 71, 3) := by decide +kernel
theorem d_MText_values_117 : decode y_MText_values.2.1 117 = .ok (.bipush 48, 2) := by decide +kernel
theorem d_MText_values_119 : decode y_MText_values.2.1 119 = .ok (.iload_n 1, 1) := by decide +kernel
theorem d_MText_values_120 : decode y_MText_values.2.1 120 = .ok (.imul, 1) := by decide +kernel
theorem d_MText_values_121 : decode y_MText_values.2.1 121 = .ok (.iload 6, 2) := by decide +kernel
theorem d_MText_values_123 : decode y_MText_values.2.1 123 = .ok (.iadd, 1) := by decide +kernel
theorem d_MText_values_124 : decode y_MText_values.2.1 124 = .ok (.aload_n 0, 1) := by decide +kernel
theorem d_MText_values_125 : decode y_MText_values.2.1 125 = .ok (.aload_n 0, 1) := by decide +kernel
theorem d_MText_values_126 : decode y_MText_values.2.1 126 = .ok (.getfield 50, 3) := by decide +kernel
theorem d_MText_values_129 : decode y_MText_values.2.1 129 = .ok (.iload 6, 2) := by decide +kernel
theorem d_MText_values_131 : decode y_MText_values.2.1 131 = .ok (.iaload, 1) := by decide +kernel
theorem d_MText_values_132 : decode y_MText_values.2.1 132 = .ok (.invokevirtual 274, 3) := by decide +kernel
theorem d_MText_values_135 : decode y_MText_values.2.1 135 = .ok (.iastore, 1) := by decide +kernel
theorem d_MText_values_136 : decode y_MText_values.2.1 136 = .ok (.aload_n 0, 1) := by decide +kernel
theorem d_MText_values_137 : decode y_MText_values.2.1 137 = .ok (.bipush 44, 2) := by decide +kernel
theorem d_MText_values_139 : decode y_MText_values.2.1 139 = .ok (.invokevirtual 197, 3) := by decide +kernel
theorem d_MText_values_142 : decode y_MText_values.2.1 142 = .ok (.istore 4, 2) := by decide +kernel
theorem d_MText_values_144 : decode y_MText_values.2.1 144 = .ok (.goto (-139), 3) := by decide +kernel
theorem d_MText_values_147 : decode y_MText_values.2.1 147 = .ok (.aload_n 0, 1) := by decide +kernel
theorem d_MText_values_148 : decode y_MText_values.2.1 148 = .ok (.bipush 41, 2) := by decide +kernel
theorem d_MText_values_150 : decode y_MText_values.2.1 150 = .ok (.invokevirtual 204, 3) := by decide +kernel
theorem d_MText_values_153 : decode y_MText_values.2.1 153 = .ok (.return_, 1) := by decide +kernel
theorem s_MText_values : ab_Stat y_MText_values 2 := ⟨(k10 239 rfl rfl), (k1 20 rfl rfl), ⟨by decide, by decide⟩, by decide +kernel⟩
theorem i_MText_values : Cond.instanceMethod y_MText_values.1 ∈ ab_T := (k10 238 rfl rfl)
theorem v_MText_values : Cond.selects "WorldEngineModel$Text" y_MText_values.1 y_MText_values.1 ∈ ab_T := ab_s (List.mem_of_getElem? (i := 133) rfl) rfl
def B_MText_values_147 (N : Nat) (p0 : Nat) (p1 : Int32) (p2 : Int32)  (H : Hp) : Option (Unit × Hp) :=
    ck (H.sh[p0]? = some (14, 0)) <|
    bC (F_MText_takes N p0 (41 : Int32) H) fun v6 H7 =>
    some ((), H7)
set_option maxRecDepth 20000 in
set_option maxHeartbeats 2000000 in
theorem mB_MText_values_147 {N : Nat} {p0 : Nat} {p1 : Int32} {p2 : Int32}  {H : Hp} {r : Unit × Hp} (hF : B_MText_values_147 N p0 p1 p2  H = some r) : Sa H r.2 := by
  unfold B_MText_values_147 at hF
  have hm := Sa.rf H
  obtain ⟨q8, hG⟩ := ck_s hF; clear hF
  obtain ⟨v10, H11, z9, hF⟩ := bC_s hG; clear hG
  replace hm : Sa H H11 := hm.tr (m_MText_takes z9)
  have hr := Option.some.inj hF; subst hr
  exact hm
set_option maxRecDepth 20000 in
set_option maxHeartbeats 2000000 in
theorem kB_MText_values_147 {N : Nat} {p0 : Nat} {p1 : Int32} {p2 : Int32}  {H : Hp} {r : Unit × Hp} (hF : B_MText_values_147 N p0 p1 p2  H = some r) : ab_V y_MText_values { frames := 4, cells := 0, slots := 0, locals := 85 } (po (.returned none) r.2) 0 0 0 0 147 [some (.ref p0), some (.int p1), some (.int p2), none, none, none, none] [] (hpw H) := by
  unfold B_MText_values_147 at hF
  refine ab_aload_n d_MText_values_147 rfl rfl rfl ?_
  refine ab_bipush (v := 41) d_MText_values_148 (by decide) ?_
  obtain ⟨q4, hG⟩ := ck_s hF; clear hF
  obtain ⟨v6, H7, z5, hF⟩ := bC_s hG; clear hG
  refine hp_callV_v (H1 := H7) (As := [.int 41]) (rest := []) d_MText_values_150 (k_MText_takes z5) (ab_mkC s_MText_takes (Nat.le_of_ble_eq_true rfl) (Nat.le_of_ble_eq_true rfl) (Nat.le_refl 0) (Nat.le_refl 0)) (k10 172 rfl rfl) i_MText_takes v_MText_takes q4 (by decide) rfl rfl (Nat.le_of_ble_eq_true rfl) ?_
  have s_1 : Sa H H7 := (m_MText_takes z5)
  exact ab_vret d_MText_values_153 rfl (Nat.le_refl _) (Nat.le_refl _) (by have hr := Option.some.inj hF; subst hr; exact ⟨rfl, rfl⟩)
def B_MText_values_85 (N : Nat) (p0 : Nat) (p1 : Int32) (p2 : Int32) (kq5 : Int32 → Int32 → Hp → Option (Unit × Hp)) (l3 : Int32) (l6 : Int32) (H : Hp) : Option (Unit × Hp) :=
    ck (H.sh[p0]? = some (14, 0)) <|
    bC (F_MText_takes N p0 (61 : Int32) H) fun v22 H23 =>
    bnd ((H23.D p0 9)) fun x24 =>
    if x24 ≤ (0 : Int32) then
    rf (H23.P p0 18) fun a26 =>
    ar H23 100 a26 fun n28 =>
    ck (inb p2 n28) <|
    bnd ((H23.D a26 (p2).toNatClampNeg)) fun x31 =>
    bnd ((l3 ||| ((1 : Int32) <<< ((l6 - x31) &&& 31)))) fun x32 =>
    rf (H23.P p0 28) fun a33 =>
    rf (H23.P p0 19) fun a35 =>
    ar H23 100 a35 fun n37 =>
    ck (inb l6 n37) <|
    bnd ((H23.D a35 (l6).toNatClampNeg)) fun x40 =>
    bC (F_MText_constant N p0 x40 H23) fun v42 H43 =>
    ar H43 100 a33 fun n44 =>
    ck (inb (((48 : Int32) * p1) + l6) n44) <|
    bnd (H43.sD a33 ((((48 : Int32) * p1) + l6)).toNatClampNeg v42) fun H47 =>
    bC (F_MText_accepts N p0 (44 : Int32) H47) fun v49 H50 =>
    kq5 x32 v49 H50
    else
    some ((), H23)
set_option maxRecDepth 20000 in
set_option maxHeartbeats 2000000 in
theorem mB_MText_values_85 {N : Nat} {p0 : Nat} {p1 : Int32} {p2 : Int32} {kq5 : Int32 → Int32 → Hp → Option (Unit × Hp)} (hm5 : ∀ (l3 : Int32) (l4 : Int32) (H : Hp) (r : Unit × Hp), kq5 l3 l4 H = some r → Sa H r.2) {l3 : Int32} {l6 : Int32} {H : Hp} {r : Unit × Hp} (hF : B_MText_values_85 N p0 p1 p2 kq5 l3 l6 H = some r) : Sa H r.2 := by
  unfold B_MText_values_85 at hF
  have hm := Sa.rf H
  obtain ⟨q51, hG⟩ := ck_s hF; clear hF
  obtain ⟨v53, H54, z52, hF⟩ := bC_s hG; clear hG
  replace hm : Sa H H54 := hm.tr (m_MText_takes z52)
  obtain ⟨x55, -, hG⟩ := bnd_g hF; clear hF
  rcases ite_s hG with ⟨q_9, hF⟩ | ⟨q_9, hF⟩
  · clear hG
    obtain ⟨a57, e58, hG⟩ := rf_s hF; clear hF
    obtain ⟨n59, q60, hF⟩ := ar_s hG; clear hG
    obtain ⟨q61, hG⟩ := ck_s hF; clear hF
    obtain ⟨x62, -, hF⟩ := bnd_g hG; clear hG
    obtain ⟨x63, -, hG⟩ := bnd_g hF; clear hF
    obtain ⟨a64, e65, hF⟩ := rf_s hG; clear hG
    obtain ⟨a66, e67, hG⟩ := rf_s hF; clear hF
    obtain ⟨n68, q69, hF⟩ := ar_s hG; clear hG
    obtain ⟨q70, hG⟩ := ck_s hF; clear hF
    obtain ⟨x71, -, hF⟩ := bnd_g hG; clear hG
    obtain ⟨v73, H74, z72, hG⟩ := bC_s hF; clear hF
    replace hm : Sa H H74 := hm.tr (m_MText_constant z72)
    obtain ⟨n75, q76, hF⟩ := ar_s hG; clear hG
    obtain ⟨q77, hG⟩ := ck_s hF; clear hF
    obtain ⟨H78, eH78, hF⟩ := bnd_g hG; clear hG
    replace hm : Sa H H78 := by rw [eH78]; exact hm
    obtain ⟨v80, H81, z79, hG⟩ := bC_s hF; clear hF
    replace hm : Sa H H81 := hm.tr (m_MText_accepts z79)
    exact hm.tr (hm5 x63 v80 H81 r hG)
  · clear hG
    have hr := Option.some.inj hF; subst hr
    exact hm
set_option maxRecDepth 20000 in
set_option maxHeartbeats 2000000 in
theorem kB_MText_values_85 {N : Nat} {p0 : Nat} {p1 : Int32} {p2 : Int32} {kq5 : Int32 → Int32 → Hp → Option (Unit × Hp)} (hm5 : ∀ (l3 : Int32) (l4 : Int32) (H : Hp) (r : Unit × Hp), kq5 l3 l4 H = some r → Sa H r.2) (hk5 : ∀ (l3 : Int32) (l4 : Int32) (H : Hp) (r : Unit × Hp), kq5 l3 l4 H = some r → ab_V y_MText_values { frames := 4, cells := 0, slots := 0, locals := 85 } (po (.returned none) r.2) 0 0 0 0 5 [some (.ref p0), some (.int p1), some (.int p2), some (.int l3), some (.int l4), none, none] [] (hpw H)) {l3 : Int32} {l6 : Int32} {H : Hp} {r : Unit × Hp} (hF : B_MText_values_85 N p0 p1 p2 kq5 l3 l6 H = some r) : ab_V y_MText_values { frames := 4, cells := 0, slots := 0, locals := 85 } (po (.returned none) r.2) 0 0 0 0 85 [some (.ref p0), some (.int p1), some (.int p2), some (.int l3), none, none, some (.int l6)] [] (hpw H) := by
  unfold B_MText_values_85 at hF
  refine ab_aload_n d_MText_values_85 rfl rfl rfl ?_
  refine ab_bipush (v := 61) d_MText_values_86 (by decide) ?_
  obtain ⟨q20, hG⟩ := ck_s hF; clear hF
  obtain ⟨v22, H23, z21, hF⟩ := bC_s hG; clear hG
  refine hp_callV_v (H1 := H23) (As := [.int 61]) (rest := []) d_MText_values_88 (k_MText_takes z21) (ab_mkC s_MText_takes (Nat.le_of_ble_eq_true rfl) (Nat.le_of_ble_eq_true rfl) (Nat.le_refl 0) (Nat.le_refl 0)) (k10 172 rfl rfl) i_MText_takes v_MText_takes q20 (by decide) rfl rfl (Nat.le_of_ble_eq_true rfl) ?_
  have s_4 : Sa H H23 := (m_MText_takes z21)
  refine ab_aload_n d_MText_values_91 rfl rfl rfl ?_
  refine hp_getI (f := 9) d_MText_values_92 (by rw [(s_4).1]; exact q20) (by decide) rfl (by decide) (k8 172 rfl rfl) rfl ?_
  refine ab_topi (fun x24 ex24 => ?_)
  replace hF := bnd_s ex24 hF
  refine ab_if_le (tgt := 99) d_MText_values_95 (by decide) (fun q25 => ?_) (fun q25 => ?_)
  · rw [if_pos q25] at hF
    refine ab_iload_n d_MText_values_99 rfl rfl ?_
    refine ab_iconst (v := 1) d_MText_values_100 (by decide) ?_
    refine ab_iload d_MText_values_101 rfl ?_
    refine ab_aload_n d_MText_values_103 rfl rfl rfl ?_
    obtain ⟨a26, e27, hG⟩ := rf_s hF; clear hF
    refine hp_getR (f := 18) d_MText_values_104 (by rw [(s_4).1]; exact q20) (by decide) rfl (by decide) (k8 184 rfl rfl) rfl e27 ?_
    refine ab_iload_n d_MText_values_107 rfl rfl ?_
    obtain ⟨n28, q29, hF⟩ := ar_s hG; clear hG
    rw [(s_4).1] at q29
    obtain ⟨q30, hG⟩ := ck_s hF; clear hF
    refine hp_iald d_MText_values_108 tI (by rw [(s_4).1]; exact q29) q30 ?_
    refine ab_topi (fun x31 ex31 => ?_)
    replace hG := bnd_s ex31 hG
    refine ab_isub d_MText_values_109 ?_
    refine ab_ishl d_MText_values_110 ?_
    refine ab_ior d_MText_values_111 ?_
    refine ab_topi (fun x32 ex32 => ?_)
    replace hG := bnd_s ex32 hG
    refine ab_istore_n (lv' := [some (.ref p0), some (.int p1), some (.int p2), some (.int x32), none, none, some (.int l6)]) d_MText_values_112 rfl (by decide) rfl ?_
    refine ab_aload_n d_MText_values_113 rfl rfl rfl ?_
    obtain ⟨a33, e34, hF⟩ := rf_s hG; clear hG
    refine hp_getR (f := 28) d_MText_values_114 (by rw [(s_4).1]; exact q20) (by decide) rfl (by decide) (k8 209 rfl rfl) rfl e34 ?_
    refine ab_bipush (v := 48) d_MText_values_117 (by decide) ?_
    refine ab_iload_n d_MText_values_119 rfl rfl ?_
    refine ab_imul d_MText_values_120 ?_
    refine ab_iload d_MText_values_121 rfl ?_
    refine ab_iadd d_MText_values_123 ?_
    refine ab_aload_n d_MText_values_124 rfl rfl rfl ?_
    refine ab_aload_n d_MText_values_125 rfl rfl rfl ?_
    obtain ⟨a35, e36, hG⟩ := rf_s hF; clear hF
    refine hp_getR (f := 19) d_MText_values_126 (by rw [(s_4).1]; exact q20) (by decide) rfl (by decide) (k8 188 rfl rfl) rfl e36 ?_
    refine ab_iload d_MText_values_129 rfl ?_
    obtain ⟨n37, q38, hF⟩ := ar_s hG; clear hG
    rw [(s_4).1] at q38
    obtain ⟨q39, hG⟩ := ck_s hF; clear hF
    refine hp_iald d_MText_values_131 tI (by rw [(s_4).1]; exact q38) q39 ?_
    refine ab_topi (fun x40 ex40 => ?_)
    replace hG := bnd_s ex40 hG
    obtain ⟨v42, H43, z41, hF⟩ := bC_s hG; clear hG
    refine hp_callV_a (v := .int v42) (H1 := H43) (As := [.int x40]) (rest := [.int (((48 : Int32) * p1) + l6), .ref a33]) d_MText_values_132 (k_MText_constant z41) (ab_mkC s_MText_constant (Nat.le_of_ble_eq_true rfl) (Nat.le_of_ble_eq_true rfl) (Nat.le_refl 0) (Nat.le_refl 0)) (k11 0 rfl rfl) i_MText_constant v_MText_constant (by rw [(s_4).1]; exact q20) (by decide) rfl rfl (Nat.le_of_ble_eq_true rfl) ?_
    have s_5 : Sa H H43 := (s_4).tr (m_MText_constant z41)
    obtain ⟨n44, q45, hG⟩ := ar_s hF; clear hF
    rw [(s_5).1] at q45
    obtain ⟨q46, hF⟩ := ck_s hG; clear hG
    refine hp_iast d_MText_values_135 tI (by rw [(s_5).1]; exact q45) q46 ?_
    refine hp_gen (fun H47 eH47 => ?_)
    replace hF := bnd_s eH47 hF
    have s_6 : Sa H H47 := by rw [eH47]; exact s_5
    refine ab_aload_n d_MText_values_136 rfl rfl rfl ?_
    refine ab_bipush (v := 44) d_MText_values_137 (by decide) ?_
    obtain ⟨v49, H50, z48, hG⟩ := bC_s hF; clear hF
    refine hp_callV_a (v := .int v49) (H1 := H50) (As := [.int 44]) (rest := []) d_MText_values_139 (k_MText_accepts z48) (ab_mkC s_MText_accepts (Nat.le_of_ble_eq_true rfl) (Nat.le_of_ble_eq_true rfl) (Nat.le_refl 0) (Nat.le_refl 0)) (k10 176 rfl rfl) i_MText_accepts v_MText_accepts (by rw [(s_6).1]; exact q20) (by decide) rfl rfl (Nat.le_of_ble_eq_true rfl) ?_
    have s_7 : Sa H H50 := (s_6).tr (m_MText_accepts z48)
    refine ab_istore (lv' := [some (.ref p0), some (.int p1), some (.int p2), some (.int x32), some (.int v49), none, some (.int l6)]) d_MText_values_142 (by decide) rfl ?_
    refine ab_goto (tgt := 5) d_MText_values_144 (by decide) ?_
    refine ab_le (lv' := [some (.ref p0), some (.int p1), some (.int p2), some (.int x32), some (.int v49), none, none]) ⟨rfl, ⟨rfl, ⟨rfl, ⟨rfl, ⟨rfl, trivial⟩⟩⟩⟩⟩ ?_
    exact hk5 x32 v49 H50 r hG
  · rw [if_neg q25] at hF
    exact ab_vret d_MText_values_98 rfl (Nat.le_refl _) (Nat.le_refl _) (by have hr := Option.some.inj hF; subst hr; exact ⟨rfl, rfl⟩)
def B_MText_values_73 (N : Nat) (p0 : Nat) (p1 : Int32) (p2 : Int32) (kq5 : Int32 → Int32 → Hp → Option (Unit × Hp)) (l3 : Int32) (l5 : Int32) (l6 : Int32) (H : Hp) : Option (Unit × Hp) :=
    if (0 : Int32) ≤ l6 then
    B_MText_values_85 N p0 p1 p2 kq5 l3 l6 H
    else
    ck (H.sh[p0]? = some (14, 0)) <|
    bC (F_MText_fails N p0 (4 : Int32) l5 H) fun v84 H85 =>
    B_MText_values_85 N p0 p1 p2 kq5 l3 l6 H85
set_option maxRecDepth 20000 in
set_option maxHeartbeats 2000000 in
theorem mB_MText_values_73 {N : Nat} {p0 : Nat} {p1 : Int32} {p2 : Int32} {kq5 : Int32 → Int32 → Hp → Option (Unit × Hp)} (hm5 : ∀ (l3 : Int32) (l4 : Int32) (H : Hp) (r : Unit × Hp), kq5 l3 l4 H = some r → Sa H r.2) {l3 : Int32} {l5 : Int32} {l6 : Int32} {H : Hp} {r : Unit × Hp} (hF : B_MText_values_73 N p0 p1 p2 kq5 l3 l5 l6 H = some r) : Sa H r.2 := by
  unfold B_MText_values_73 at hF
  have hm := Sa.rf H
  rcases ite_s hF with ⟨q_14, hG⟩ | ⟨q_14, hG⟩
  · clear hF
    exact hm.tr (mB_MText_values_85 hm5 hG)
  · clear hF
    obtain ⟨q87, hF⟩ := ck_s hG; clear hG
    obtain ⟨v89, H90, z88, hG⟩ := bC_s hF; clear hF
    replace hm : Sa H H90 := hm.tr (m_MText_fails z88)
    exact hm.tr (mB_MText_values_85 hm5 hG)
set_option maxRecDepth 20000 in
set_option maxHeartbeats 2000000 in
theorem kB_MText_values_73 {N : Nat} {p0 : Nat} {p1 : Int32} {p2 : Int32} {kq5 : Int32 → Int32 → Hp → Option (Unit × Hp)} (hm5 : ∀ (l3 : Int32) (l4 : Int32) (H : Hp) (r : Unit × Hp), kq5 l3 l4 H = some r → Sa H r.2) (hk5 : ∀ (l3 : Int32) (l4 : Int32) (H : Hp) (r : Unit × Hp), kq5 l3 l4 H = some r → ab_V y_MText_values { frames := 4, cells := 0, slots := 0, locals := 85 } (po (.returned none) r.2) 0 0 0 0 5 [some (.ref p0), some (.int p1), some (.int p2), some (.int l3), some (.int l4), none, none] [] (hpw H)) {l3 : Int32} {l5 : Int32} {l6 : Int32} {H : Hp} {r : Unit × Hp} (hF : B_MText_values_73 N p0 p1 p2 kq5 l3 l5 l6 H = some r) : ab_V y_MText_values { frames := 4, cells := 0, slots := 0, locals := 85 } (po (.returned none) r.2) 0 0 0 0 73 [some (.ref p0), some (.int p1), some (.int p2), some (.int l3), none, some (.int l5), some (.int l6)] [] (hpw H) := by
  unfold B_MText_values_73 at hF
  refine ab_iload d_MText_values_73 rfl ?_
  refine ab_if_ge (tgt := 85) d_MText_values_75 (by decide) (fun q19 => ?_) (fun q19 => ?_)
  · rw [if_pos q19] at hF
    refine ab_le (lv' := [some (.ref p0), some (.int p1), some (.int p2), some (.int l3), none, none, some (.int l6)]) ⟨rfl, ⟨rfl, ⟨rfl, ⟨rfl, ⟨rfl, trivial⟩⟩⟩⟩⟩ ?_
    exact kB_MText_values_85 hm5 hk5 hF
  · rw [if_neg q19] at hF
    refine ab_aload_n d_MText_values_78 rfl rfl rfl ?_
    refine ab_iconst (v := 4) d_MText_values_79 (by decide) ?_
    refine ab_iload d_MText_values_80 rfl ?_
    obtain ⟨q82, hG⟩ := ck_s hF; clear hF
    obtain ⟨v84, H85, z83, hF⟩ := bC_s hG; clear hG
    refine hp_callV_v (H1 := H85) (As := [.int 4, .int l5]) (rest := []) d_MText_values_82 (k_MText_fails z83) (ab_mkC s_MText_fails (Nat.le_of_ble_eq_true rfl) (Nat.le_of_ble_eq_true rfl) (Nat.le_refl 0) (Nat.le_refl 0)) (k10 160 rfl rfl) i_MText_fails v_MText_fails q82 (by decide) rfl rfl (Nat.le_of_ble_eq_true rfl) ?_
    have s_13 : Sa H H85 := (m_MText_fails z83)
    refine ab_le (lv' := [some (.ref p0), some (.int p1), some (.int p2), some (.int l3), none, none, some (.int l6)]) ⟨rfl, ⟨rfl, ⟨rfl, ⟨rfl, ⟨rfl, trivial⟩⟩⟩⟩⟩ ?_
    exact kB_MText_values_85 hm5 hk5 hF
def B_MText_values_42 (N : Nat) (p0 : Nat) (p1 : Int32) (p2 : Int32) (kq5 : Int32 → Int32 → Hp → Option (Unit × Hp)) (l3 : Int32) (l5 : Int32) (w0 : Int32) (H : Hp) : Option (Unit × Hp) :=
    if w0 < (0 : Int32) then
    B_MText_values_73 N p0 p1 p2 kq5 l3 l5 w0 H
    else
    ck (H.sh[p0]? = some (14, 0)) <|
    rf (H.P p0 18) fun a92 =>
    ar H 100 a92 fun n94 =>
    ck (inb p2 n94) <|
    bnd ((H.D a92 (p2).toNatClampNeg)) fun x97 =>
    if ((l3 >>> ((w0 - x97) &&& 31)) &&& (1 : Int32)) = (1 : Int32) then
    bC (F_MText_fails N p0 (3 : Int32) l5 H) fun v100 H101 =>
    B_MText_values_73 N p0 p1 p2 kq5 l3 l5 w0 H101
    else
    B_MText_values_73 N p0 p1 p2 kq5 l3 l5 w0 H
set_option maxRecDepth 20000 in
set_option maxHeartbeats 2000000 in
theorem mB_MText_values_42 {N : Nat} {p0 : Nat} {p1 : Int32} {p2 : Int32} {kq5 : Int32 → Int32 → Hp → Option (Unit × Hp)} (hm5 : ∀ (l3 : Int32) (l4 : Int32) (H : Hp) (r : Unit × Hp), kq5 l3 l4 H = some r → Sa H r.2) {l3 : Int32} {l5 : Int32} {w0 : Int32} {H : Hp} {r : Unit × Hp} (hF : B_MText_values_42 N p0 p1 p2 kq5 l3 l5 w0 H = some r) : Sa H r.2 := by
  unfold B_MText_values_42 at hF
  have hm := Sa.rf H
  rcases ite_s hF with ⟨q_17, hG⟩ | ⟨q_17, hG⟩
  · clear hF
    exact hm.tr (mB_MText_values_73 hm5 hG)
  · clear hF
    obtain ⟨q103, hF⟩ := ck_s hG; clear hG
    obtain ⟨a104, e105, hG⟩ := rf_s hF; clear hF
    obtain ⟨n106, q107, hF⟩ := ar_s hG; clear hG
    obtain ⟨q108, hG⟩ := ck_s hF; clear hF
    obtain ⟨x109, -, hF⟩ := bnd_g hG; clear hG
    rcases ite_s hF with ⟨q_18, hG⟩ | ⟨q_18, hG⟩
    · clear hF
      obtain ⟨v112, H113, z111, hF⟩ := bC_s hG; clear hG
      replace hm : Sa H H113 := hm.tr (m_MText_fails z111)
      exact hm.tr (mB_MText_values_73 hm5 hF)
    · clear hF
      exact hm.tr (mB_MText_values_73 hm5 hG)
set_option maxRecDepth 20000 in
set_option maxHeartbeats 2000000 in
theorem kB_MText_values_42 {N : Nat} {p0 : Nat} {p1 : Int32} {p2 : Int32} {kq5 : Int32 → Int32 → Hp → Option (Unit × Hp)} (hm5 : ∀ (l3 : Int32) (l4 : Int32) (H : Hp) (r : Unit × Hp), kq5 l3 l4 H = some r → Sa H r.2) (hk5 : ∀ (l3 : Int32) (l4 : Int32) (H : Hp) (r : Unit × Hp), kq5 l3 l4 H = some r → ab_V y_MText_values { frames := 4, cells := 0, slots := 0, locals := 85 } (po (.returned none) r.2) 0 0 0 0 5 [some (.ref p0), some (.int p1), some (.int p2), some (.int l3), some (.int l4), none, none] [] (hpw H)) {l3 : Int32} {l5 : Int32} {w0 : Int32} {H : Hp} {r : Unit × Hp} (hF : B_MText_values_42 N p0 p1 p2 kq5 l3 l5 w0 H = some r) : ab_V y_MText_values { frames := 4, cells := 0, slots := 0, locals := 85 } (po (.returned none) r.2) 0 0 0 0 42 [some (.ref p0), some (.int p1), some (.int p2), some (.int l3), none, some (.int l5), none] [.int w0] (hpw H) := by
  unfold B_MText_values_42 at hF
  refine ab_istore (lv' := [some (.ref p0), some (.int p1), some (.int p2), some (.int l3), none, some (.int l5), some (.int w0)]) d_MText_values_42 (by decide) rfl ?_
  refine ab_iload d_MText_values_44 rfl ?_
  refine ab_if_lt (tgt := 73) d_MText_values_46 (by decide) (fun q18 => ?_) (fun q18 => ?_)
  · rw [if_pos q18] at hF
    exact kB_MText_values_73 hm5 hk5 hF
  · rw [if_neg q18] at hF
    refine ab_iload_n d_MText_values_49 rfl rfl ?_
    refine ab_iload d_MText_values_50 rfl ?_
    refine ab_aload_n d_MText_values_52 rfl rfl rfl ?_
    obtain ⟨q91, hG⟩ := ck_s hF; clear hF
    obtain ⟨a92, e93, hF⟩ := rf_s hG; clear hG
    refine hp_getR (f := 18) d_MText_values_53 q91 (by decide) rfl (by decide) (k8 184 rfl rfl) rfl e93 ?_
    refine ab_iload_n d_MText_values_56 rfl rfl ?_
    obtain ⟨n94, q95, hG⟩ := ar_s hF; clear hF
    obtain ⟨q96, hF⟩ := ck_s hG; clear hG
    refine hp_iald d_MText_values_57 tI q95 q96 ?_
    refine ab_topi (fun x97 ex97 => ?_)
    replace hF := bnd_s ex97 hF
    refine ab_isub d_MText_values_58 ?_
    refine ab_ishr d_MText_values_59 ?_
    refine ab_iconst (v := 1) d_MText_values_60 (by decide) ?_
    refine ab_iand d_MText_values_61 ?_
    refine ab_iconst (v := 1) d_MText_values_62 (by decide) ?_
    refine ab_icmp_ne (tgt := 73) d_MText_values_63 (by decide) (fun q98 => ?_) (fun q98 => ?_)
    · rw [if_neg q98] at hF
      exact kB_MText_values_73 hm5 hk5 hF
    · rw [if_pos q98] at hF
      refine ab_aload_n d_MText_values_66 rfl rfl rfl ?_
      refine ab_iconst (v := 3) d_MText_values_67 (by decide) ?_
      refine ab_iload d_MText_values_68 rfl ?_
      obtain ⟨v100, H101, z99, hG⟩ := bC_s hF; clear hF
      refine hp_callV_v (H1 := H101) (As := [.int 3, .int l5]) (rest := []) d_MText_values_70 (k_MText_fails z99) (ab_mkC s_MText_fails (Nat.le_of_ble_eq_true rfl) (Nat.le_of_ble_eq_true rfl) (Nat.le_refl 0) (Nat.le_refl 0)) (k10 160 rfl rfl) i_MText_fails v_MText_fails q91 (by decide) rfl rfl (Nat.le_of_ble_eq_true rfl) ?_
      have s_16 : Sa H H101 := (m_MText_fails z99)
      exact kB_MText_values_73 hm5 hk5 hG
def B_MText_values_5 (N : Nat) (p0 : Nat) (p1 : Int32) (p2 : Int32) : Nat → Int32 → Int32 → Hp → Option (Unit × Hp)
  | 0, _, _, _ => none
  | n + 1, l3, l4, H =>
    ck (H.sh[p0]? = some (14, 0)) <|
    bnd ((H.D p0 9)) fun x2 =>
    if x2 = (0 : Int32) then
    if l4 = (0 : Int32) then
    B_MText_values_147 N p0 p1 p2  H
    else
    bC (F_MText_name N p0 H) fun v14 H15 =>
    bnd ((H15.D p0 9)) fun x16 =>
    if x16 = (0 : Int32) then
    bC (F_MText_member N p0 p2 p0 v14 H15) fun v115 H116 =>
    B_MText_values_42 N p0 p1 p2 (fun l3 l4 H => B_MText_values_5 N p0 p1 p2 n l3 l4 H) l3 v14 v115 H116
    else
    B_MText_values_42 N p0 p1 p2 (fun l3 l4 H => B_MText_values_5 N p0 p1 p2 n l3 l4 H) l3 v14 (-1) H15
    else
    B_MText_values_147 N p0 p1 p2  H
termination_by structural n => n
set_option maxRecDepth 20000 in
set_option maxHeartbeats 2000000 in
theorem mB_MText_values_5 {N : Nat} {p0 : Nat} {p1 : Int32} {p2 : Int32} : ∀ (n : Nat) (l3 : Int32) (l4 : Int32) (H : Hp) (r : Unit × Hp), B_MText_values_5 N p0 p1 p2 n l3 l4 H = some r → Sa H r.2 := by
  intro n
  induction n with
  | zero => intro l3 l4 H r hF; rw [B_MText_values_5] at hF; cases hF
  | succ n ih =>
    intro l3 l4 H r hF
    rw [B_MText_values_5] at hF
    have hm := Sa.rf H
    obtain ⟨q117, hG⟩ := ck_s hF; clear hF
    obtain ⟨x118, -, hF⟩ := bnd_g hG; clear hG
    rcases ite_s hF with ⟨q_21, hG⟩ | ⟨q_21, hG⟩
    · clear hF
      rcases ite_s hG with ⟨q_22, hF⟩ | ⟨q_22, hF⟩
      · clear hG
        exact hm.tr (mB_MText_values_147 hF)
      · clear hG
        obtain ⟨v122, H123, z121, hG⟩ := bC_s hF; clear hF
        replace hm : Sa H H123 := hm.tr (m_MText_name z121)
        obtain ⟨x124, -, hF⟩ := bnd_g hG; clear hG
        rcases ite_s hF with ⟨q_24, hG⟩ | ⟨q_24, hG⟩
        · clear hF
          obtain ⟨v127, H128, z126, hF⟩ := bC_s hG; clear hG
          replace hm : Sa H H128 := hm.tr (m_MText_member z126)
          exact hm.tr (mB_MText_values_42 ih hF)
        · clear hF
          exact hm.tr (mB_MText_values_42 ih hG)
    · clear hF
      exact hm.tr (mB_MText_values_147 hG)
set_option maxRecDepth 20000 in
set_option maxHeartbeats 2000000 in
theorem kB_MText_values_5 {N : Nat} {p0 : Nat} {p1 : Int32} {p2 : Int32} : ∀ (n : Nat) (l3 : Int32) (l4 : Int32) (H : Hp) (r : Unit × Hp), B_MText_values_5 N p0 p1 p2 n l3 l4 H = some r → ab_V y_MText_values { frames := 4, cells := 0, slots := 0, locals := 85 } (po (.returned none) r.2) 0 0 0 0 5 [some (.ref p0), some (.int p1), some (.int p2), some (.int l3), some (.int l4), none, none] [] (hpw H) := by
  intro n
  induction n with
  | zero => intro l3 l4 H r hF; rw [B_MText_values_5] at hF; cases hF
  | succ n ih =>
    intro l3 l4 H r hF
    rw [B_MText_values_5] at hF
    refine ab_aload_n d_MText_values_5 rfl rfl rfl ?_
    obtain ⟨q1, hG⟩ := ck_s hF; clear hF
    refine hp_getI (f := 9) d_MText_values_6 q1 (by decide) rfl (by decide) (k8 172 rfl rfl) rfl ?_
    refine ab_topi (fun x2 ex2 => ?_)
    replace hG := bnd_s ex2 hG
    refine ab_if_ne (tgt := 147) d_MText_values_9 (by decide) (fun q3 => ?_) (fun q3 => ?_)
    · rw [if_neg q3] at hG
      refine ab_le (lv' := [some (.ref p0), some (.int p1), some (.int p2), none, none, none, none]) ⟨rfl, ⟨rfl, ⟨rfl, trivial⟩⟩⟩ ?_
      exact kB_MText_values_147 hG
    · rw [if_pos q3] at hG
      refine ab_iload d_MText_values_12 rfl ?_
      refine ab_if_eq (tgt := 147) d_MText_values_14 (by decide) (fun q12 => ?_) (fun q12 => ?_)
      · rw [if_pos q12] at hG
        refine ab_le (lv' := [some (.ref p0), some (.int p1), some (.int p2), none, none, none, none]) ⟨rfl, ⟨rfl, ⟨rfl, trivial⟩⟩⟩ ?_
        exact kB_MText_values_147 hG
      · rw [if_neg q12] at hG
        refine ab_aload_n d_MText_values_17 rfl rfl rfl ?_
        obtain ⟨v14, H15, z13, hF⟩ := bC_s hG; clear hG
        refine hp_callV_a (v := .int v14) (H1 := H15) (As := []) (rest := []) d_MText_values_18 (k_MText_name z13) (ab_mkC s_MText_name (Nat.le_of_ble_eq_true rfl) (Nat.le_of_ble_eq_true rfl) (Nat.le_refl 0) (Nat.le_refl 0)) (k10 168 rfl rfl) i_MText_name v_MText_name q1 (by decide) rfl rfl (Nat.le_of_ble_eq_true rfl) ?_
        have s_3 : Sa H H15 := (m_MText_name z13)
        refine ab_istore (lv' := [some (.ref p0), some (.int p1), some (.int p2), some (.int l3), some (.int l4), some (.int v14), none]) d_MText_values_21 (by decide) rfl ?_
        refine ab_aload_n d_MText_values_23 rfl rfl rfl ?_
        refine hp_getI (f := 9) d_MText_values_24 (by rw [(s_3).1]; exact q1) (by decide) rfl (by decide) (k8 172 rfl rfl) rfl ?_
        refine ab_topi (fun x16 ex16 => ?_)
        replace hF := bnd_s ex16 hF
        refine ab_if_ne (tgt := 41) d_MText_values_27 (by decide) (fun q17 => ?_) (fun q17 => ?_)
        · rw [if_neg q17] at hF
          refine ab_iconst (v := (-1)) d_MText_values_41 (by decide) ?_
          refine ab_le (lv' := [some (.ref p0), some (.int p1), some (.int p2), some (.int l3), none, some (.int v14), none]) ⟨rfl, ⟨rfl, ⟨rfl, ⟨rfl, ⟨rfl, trivial⟩⟩⟩⟩⟩ ?_
          exact kB_MText_values_42 (mB_MText_values_5 n) ih hF
        · rw [if_pos q17] at hF
          refine ab_aload_n d_MText_values_30 rfl rfl rfl ?_
          refine ab_iload_n d_MText_values_31 rfl rfl ?_
          refine ab_aload_n d_MText_values_32 rfl rfl rfl ?_
          refine ab_iload d_MText_values_33 rfl ?_
          obtain ⟨v115, H116, z114, hG⟩ := bC_s hF; clear hF
          refine hp_callV_a (v := .int v115) (H1 := H116) (As := [.int p2, .ref p0, .int v14]) (rest := []) d_MText_values_35 (k_MText_member z114) (ab_mkC s_MText_member (Nat.le_of_ble_eq_true rfl) (Nat.le_of_ble_eq_true rfl) (Nat.le_refl 0) (Nat.le_refl 0)) (k10 200 rfl rfl) i_MText_member v_MText_member (by rw [(s_3).1]; exact q1) (by decide) rfl rfl (Nat.le_of_ble_eq_true rfl) ?_
          have s_20 : Sa H H116 := (s_3).tr (m_MText_member z114)
          refine ab_goto (tgt := 42) d_MText_values_38 (by decide) ?_
          refine ab_le (lv' := [some (.ref p0), some (.int p1), some (.int p2), some (.int l3), none, some (.int v14), none]) ⟨rfl, ⟨rfl, ⟨rfl, ⟨rfl, ⟨rfl, trivial⟩⟩⟩⟩⟩ ?_
          exact kB_MText_values_42 (mB_MText_values_5 n) ih hG
def F_MText_values (N : Nat) (p0 : Nat) (p1 : Int32) (p2 : Int32) (H : Hp) : Option (Unit × Hp) :=
    B_MText_values_5 N p0 p1 p2 N 0 1 H
set_option maxRecDepth 20000 in
set_option maxHeartbeats 2000000 in
theorem m_MText_values {N : Nat} {p0 : Nat} {p1 : Int32} {p2 : Int32} {H : Hp} {r : Unit × Hp} (hF : F_MText_values N p0 p1 p2 H = some r) : Sa H r.2 := by
  unfold F_MText_values at hF
  have hm := Sa.rf H
  exact hm.tr (mB_MText_values_5 N 0 1 H r hF)
set_option maxRecDepth 20000 in
set_option maxHeartbeats 2000000 in
theorem k_MText_values {N : Nat} {p0 : Nat} {p1 : Int32} {p2 : Int32} {H : Hp} {r : Unit × Hp} (hF : F_MText_values N p0 p1 p2 H = some r) : ab_M y_MText_values { frames := 4, cells := 0, slots := 0, locals := 85 } [.ref p0, .int p1, .int p2] (hpw H) (po (.returned none) r.2) := by
  unfold F_MText_values at hF
  refine ab_of2 (lv := [some (.ref p0), some (.int p1), some (.int p2), none, none, none, none]) 4 rfl rfl (Nat.le_of_ble_eq_true rfl) ?_
  refine ab_iconst (v := 0) d_MText_values_0 (by decide) ?_
  refine ab_istore_n (lv' := [some (.ref p0), some (.int p1), some (.int p2), some (.int 0), none, none, none]) d_MText_values_1 rfl (by decide) rfl ?_
  refine ab_iconst (v := 1) d_MText_values_2 (by decide) ?_
  refine ab_istore (lv' := [some (.ref p0), some (.int p1), some (.int p2), some (.int 0), some (.int 1), none, none]) d_MText_values_3 (by decide) rfl ?_
  exact kB_MText_values_5 N 0 1 H r hF
