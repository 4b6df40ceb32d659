def y_Program_aim : ab_Y := (⟨"WorldEngine$Program", "aim", "(I)V"⟩, prog_6_method_7_code, 2, none, [])
theorem d_Program_aim_0 : decode y_Program_aim.2.1 0 = .ok (.iload_n 1, 1) := by decide +kernel
theorem d_Program_aim_1 : decode y_Program_aim.2.1 1 = .ok (.ifCond .lt 21, 3) := by decide +kernel
theorem d_Program_aim_4 : decode y_Program_aim.2.1 4 = .ok (.iload_n 1, 1) := by decide +kernel
theorem d_Program_aim_5 : decode y_Program_aim.2.1 5 = .ok (.aload_n 0, 1) := by decide +kernel
theorem d_Program_aim_6 : decode y_Program_aim.2.1 6 = .ok (.getfield 78, 3) := by decide +kernel
theorem d_Program_aim_9 : decode y_Program_aim.2.1 9 = .ok (.if_icmp .ge 13, 3) := by decide +kernel
theorem d_Program_aim_12 : decode y_Program_aim.2.1 12 = .ok (.aload_n 0, 1) := by decide +kernel
theorem d_Program_aim_13 : decode y_Program_aim.2.1 13 = .ok (.getfield 59, 3) := by decide +kernel
theorem d_Program_aim_16 : decode y_Program_aim.2.1 16 = .ok (.iload_n 1, 1) := by decide +kernel
theorem d_Program_aim_17 : decode y_Program_aim.2.1 17 = .ok (.aload_n 0, 1) := by decide +kernel
theorem d_Program_aim_18 : decode y_Program_aim.2.1 18 = .ok (.getfield 78, 3) := by decide +kernel
theorem d_Program_aim_21 : decode y_Program_aim.2.1 21 = .ok (.iastore, 1) := by decide +kernel
theorem d_Program_aim_22 : decode y_Program_aim.2.1 22 = .ok (.return_, 1) := by decide +kernel
theorem s_Program_aim : ab_Stat y_Program_aim 1 := ⟨(k5 235 rfl rfl), (k1 15 rfl rfl), ⟨by decide, by decide⟩, by decide +kernel⟩
theorem i_Program_aim : Cond.instanceMethod y_Program_aim.1 ∈ ab_T := (k5 233 rfl rfl)
theorem v_Program_aim : Cond.selects "WorldEngine$Program" y_Program_aim.1 y_Program_aim.1 ∈ ab_T := (k5 234 rfl rfl)
def F_Program_aim (N : Nat) (p0 : Nat) (p1 : Int32) (H : Hp) : Option (Unit × Hp) :=
    if p1 < (0 : Int32) then
    some ((), H)
    else
    ck (H.sh[p0]? = some (4, 0)) <|
    bnd ((H.D p0 17)) fun x3 =>
    if x3 ≤ p1 then
    some ((), H)
    else
    rf (H.P p0 16) fun a5 =>
    bnd ((H.D p0 17)) fun x7 =>
    ar H 100 a5 fun n8 =>
    ck (inb p1 n8) <|
    bnd (H.sD a5 (p1).toNatClampNeg x7) fun H11 =>
    some ((), H11)
set_option maxRecDepth 20000 in
set_option maxHeartbeats 2000000 in
theorem m_Program_aim {N : Nat} {p0 : Nat} {p1 : Int32} {H : Hp} {r : Unit × Hp} (hF : F_Program_aim N p0 p1 H = some r) : Sa H r.2 := by
  unfold F_Program_aim at hF
  have hm := Sa.rf H
  rcases ite_s hF with ⟨q_2, hG⟩ | ⟨q_2, hG⟩
  · clear hF
    have hr := Option.some.inj hG; subst hr
    exact hm
  · clear hF
    obtain ⟨q13, hF⟩ := ck_s hG; clear hG
    obtain ⟨x14, -, hG⟩ := bnd_g hF; clear hF
    rcases ite_s hG with ⟨q_3, hF⟩ | ⟨q_3, hF⟩
    · clear hG
      have hr := Option.some.inj hF; subst hr
      exact hm
    · clear hG
      obtain ⟨a16, e17, hG⟩ := rf_s hF; clear hF
      obtain ⟨x18, -, hF⟩ := bnd_g hG; clear hG
      obtain ⟨n19, q20, hG⟩ := ar_s hF; clear hF
      obtain ⟨q21, hF⟩ := ck_s hG; clear hG
      obtain ⟨H22, eH22, hG⟩ := bnd_g hF; clear hF
      replace hm : Sa H H22 := by rw [eH22]; exact hm
      have hr := Option.some.inj hG; subst hr
      exact hm
set_option maxRecDepth 20000 in
set_option maxHeartbeats 2000000 in
theorem k_Program_aim {N : Nat} {p0 : Nat} {p1 : Int32} {H : Hp} {r : Unit × Hp} (hF : F_Program_aim N p0 p1 H = some r) : ab_M y_Program_aim { frames := 0, cells := 0, slots := 0, locals := 0 } [.ref p0, .int p1] (hpw H) (po (.returned none) r.2) := by
  unfold F_Program_aim at hF
  refine ab_of2 (lv := [some (.ref p0), some (.int p1)]) 0 rfl rfl (Nat.le_of_ble_eq_true rfl) ?_
  refine ab_iload_n d_Program_aim_0 rfl rfl ?_
  refine ab_if_lt (tgt := 22) d_Program_aim_1 (by decide) (fun q1 => ?_) (fun q1 => ?_)
  · rw [if_pos q1] at hF
    exact ab_vret d_Program_aim_22 rfl (Nat.le_refl _) (Nat.le_refl _) (by have hr := Option.some.inj hF; subst hr; exact ⟨rfl, rfl⟩)
  · rw [if_neg q1] at hF
    refine ab_iload_n d_Program_aim_4 rfl rfl ?_
    refine ab_aload_n d_Program_aim_5 rfl rfl rfl ?_
    obtain ⟨q2, hG⟩ := ck_s hF; clear hF
    refine hp_getI (f := 17) d_Program_aim_6 q2 (by decide) rfl (by decide) (k3 112 rfl rfl) rfl ?_
    refine ab_topi (fun x3 ex3 => ?_)
    replace hG := bnd_s ex3 hG
    refine ab_icmp_ge (tgt := 22) d_Program_aim_9 (by decide) (fun q4 => ?_) (fun q4 => ?_)
    · rw [if_pos q4] at hG
      exact ab_vret d_Program_aim_22 rfl (Nat.le_refl _) (Nat.le_refl _) (by have hr := Option.some.inj hG; subst hr; exact ⟨rfl, rfl⟩)
    · rw [if_neg q4] at hG
      refine ab_aload_n d_Program_aim_12 rfl rfl rfl ?_
      obtain ⟨a5, e6, hF⟩ := rf_s hG; clear hG
      refine hp_getR (f := 16) d_Program_aim_13 q2 (by decide) rfl (by decide) (k3 110 rfl rfl) rfl e6 ?_
      refine ab_iload_n d_Program_aim_16 rfl rfl ?_
      refine ab_aload_n d_Program_aim_17 rfl rfl rfl ?_
      refine hp_getI (f := 17) d_Program_aim_18 q2 (by decide) rfl (by decide) (k3 112 rfl rfl) rfl ?_
      refine ab_topi (fun x7 ex7 => ?_)
      replace hF := bnd_s ex7 hF
      obtain ⟨n8, q9, hG⟩ := ar_s hF; clear hF
      obtain ⟨q10, hF⟩ := ck_s hG; clear hG
      refine hp_iast d_Program_aim_21 tI q9 q10 ?_
      refine hp_gen (fun H11 eH11 => ?_)
      replace hF := bnd_s eH11 hF
      have s_1 : Sa H H11 := by rw [eH11]; exact Sa.rf _
      exact ab_vret d_Program_aim_22 rfl (Nat.le_refl _) (Nat.le_refl _) (by have hr := Option.some.inj hF; subst hr; exact ⟨rfl, rfl⟩)
def y_Body_signsFrom : ab_Y := (⟨"WorldEngine$Body", "signsFrom", "(I)I"⟩, prog_2_method_35_code, 8, (some FieldType.int), [])
theorem d_Body_signsFrom_0 : decode y_Body_signsFrom.2.1 0 = .ok (.iload_n 1, 1) := by decide +kernel
theorem d_Body_signsFrom_1 : decode y_Body_signsFrom.2.1 1 = .ok (.iconst 4, 1) := by decide +kernel
theorem d_Body_signsFrom_2 : decode y_Body_signsFrom.2.1 2 = .ok (.if_icmp .ge 13, 3) := by decide +kernel
theorem d_Body_signsFrom_5 : decode y_Body_signsFrom.2.1 5 = .ok (.aload_n 0, 1) := by decide +kernel
theorem d_Body_signsFrom_6 : decode y_Body_signsFrom.2.1 6 = .ok (.iload_n 1, 1) := by decide +kernel
theorem d_Body_signsFrom_7 : decode y_Body_signsFrom.2.1 7 = .ok (.iconst 1, 1) := by decide +kernel
theorem d_Body_signsFrom_8 : decode y_Body_signsFrom.2.1 8 = .ok (.iadd, 1) := by decide +kernel
theorem d_Body_signsFrom_9 : decode y_Body_signsFrom.2.1 9 = .ok (.invokevirtual 227, 3) := by decide +kernel
theorem d_Body_signsFrom_12 : decode y_Body_signsFrom.2.1 12 = .ok (.goto 7, 3) := by decide +kernel
theorem d_Body_signsFrom_15 : decode y_Body_signsFrom.2.1 15 = .ok (.aload_n 0, 1) := by decide +kernel
theorem d_Body_signsFrom_16 : decode y_Body_signsFrom.2.1 16 = .ok (.invokevirtual 233, 3) := by decide +kernel
theorem d_Body_signsFrom_19 : decode y_Body_signsFrom.2.1 19 = .ok (.istore_n 2, 1) := by decide +kernel
theorem d_Body_signsFrom_20 : decode y_Body_signsFrom.2.1 20 = .ok (.iconst 0, 1) := by decide +kernel
theorem d_Body_signsFrom_21 : decode y_Body_signsFrom.2.1 21 = .ok (.istore_n 3, 1) := by decide +kernel
theorem d_Body_signsFrom_22 : decode y_Body_signsFrom.2.1 22 = .ok (.iload_n 3, 1) := by decide +kernel
theorem d_Body_signsFrom_23 : decode y_Body_signsFrom.2.1 23 = .ok (.sipush 6000, 3) := by decide +kernel
theorem d_Body_signsFrom_26 : decode y_Body_signsFrom.2.1 26 = .ok (.if_icmp .gt 122, 3) := by decide +kernel
theorem d_Body_signsFrom_29 : decode y_Body_signsFrom.2.1 29 = .ok (.aload_n 0, 1) := by decide +kernel
theorem d_Body_signsFrom_30 : decode y_Body_signsFrom.2.1 30 = .ok (.getfield 7, 3) := by decide +kernel
theorem d_Body_signsFrom_33 : decode y_Body_signsFrom.2.1 33 = .ok (.getfield 45, 3) := by decide +kernel
theorem d_Body_signsFrom_36 : decode y_Body_signsFrom.2.1 36 = .ok (.invokestatic 237, 3) := by decide +kernel
theorem d_Body_signsFrom_39 : decode y_Body_signsFrom.2.1 39 = .ok (.iload_n 1, 1) := by decide +kernel
theorem d_Body_signsFrom_40 : decode y_Body_signsFrom.2.1 40 = .ok (.if_icmp .ne 108, 3) := by decide +kernel
theorem d_Body_signsFrom_43 : decode y_Body_signsFrom.2.1 43 = .ok (.aload_n 0, 1) := by decide +kernel
theorem d_Body_signsFrom_44 : decode y_Body_signsFrom.2.1 44 = .ok (.getfield 7, 3) := by decide +kernel
theorem d_Body_signsFrom_47 : decode y_Body_signsFrom.2.1 47 = .ok (.getfield 45, 3) := by decide +kernel
theorem d_Body_signsFrom_50 : decode y_Body_signsFrom.2.1 50 = .ok (.istore 4, 2) := by decide +kernel
theorem d_Body_signsFrom_52 : decode y_Body_signsFrom.2.1 52 = .ok (.aload_n 0, 1) := by decide +kernel
theorem d_Body_signsFrom_53 : decode y_Body_signsFrom.2.1 53 = .ok (.getfield 7, 3) := by decide +kernel
theorem d_Body_signsFrom_56 : decode y_Body_signsFrom.2.1 56 = .ok (.getfield 96, 3) := by decide +kernel
theorem d_Body_signsFrom_59 : decode y_Body_signsFrom.2.1 59 = .ok (.istore 5, 2) := by decide +kernel
theorem d_Body_signsFrom_61 : decode y_Body_signsFrom.2.1 61 = .ok (.aload_n 0, 1) := by decide +kernel
theorem d_Body_signsFrom_62 : decode y_Body_signsFrom.2.1 62 = .ok (.getfield 7, 3) := by decide +kernel
theorem d_Body_signsFrom_65 : decode y_Body_signsFrom.2.1 65 = .ok (.invokevirtual 93, 3) := by decide +kernel
theorem d_Body_signsFrom_68 : decode y_Body_signsFrom.2.1 68 = .ok (.iload_n 1, 1) := by decide +kernel
theorem d_Body_signsFrom_69 : decode y_Body_signsFrom.2.1 69 = .ok (.iconst 1, 1) := by decide +kernel
theorem d_Body_signsFrom_70 : decode y_Body_signsFrom.2.1 70 = .ok (.if_icmp .le 7, 3) := by decide +kernel
theorem d_Body_signsFrom_73 : decode y_Body_signsFrom.2.1 73 = .ok (.iconst (-1), 1) := by decide +kernel
theorem d_Body_signsFrom_74 : decode y_Body_signsFrom.2.1 74 = .ok (.goto 16, 3) := by decide +kernel
theorem d_Body_signsFrom_77 : decode y_Body_signsFrom.2.1 77 = .ok (.aload_n 0, 1) := by decide +kernel
theorem d_Body_signsFrom_78 : decode y_Body_signsFrom.2.1 78 = .ok (.iload_n 1, 1) := by decide +kernel
theorem d_Body_signsFrom_79 : decode y_Body_signsFrom.2.1 79 = .ok (.ifCond .ne 7, 3) := by decide +kernel
theorem d_Body_signsFrom_82 : decode y_Body_signsFrom.2.1 82 = .ok (.iconst 5, 1) := by decide +kernel
theorem d_Body_signsFrom_83 : decode y_Body_signsFrom.2.1 83 = .ok (.goto 4, 3) := by decide +kernel
theorem d_Body_signsFrom_86 : decode y_Body_signsFrom.2.1 86 = .ok (.iconst 4, 1) := by decide +kernel
theorem d_Body_signsFrom_87 : decode y_Body_signsFrom.2.1 87 = .ok (.invokevirtual 114, 3) := by decide +kernel
theorem d_Body_signsFrom_90 : decode y_Body_signsFrom.2.1 90 = .ok (.istore 6, 2) := by decide +kernel
theorem d_Body_signsFrom_92 : decode y_Body_signsFrom.2.1 92 = .ok (.iload_n 1, 1) := by decide +kernel
theorem d_Body_signsFrom_93 : decode y_Body_signsFrom.2.1 93 = .ok (.iconst 4, 1) := by decide +kernel
theorem d_Body_signsFrom_94 : decode y_Body_signsFrom.2.1 94 = .ok (.if_icmp .ge 13, 3) := by decide +kernel
theorem d_Body_signsFrom_97 : decode y_Body_signsFrom.2.1 97 = .ok (.aload_n 0, 1) := by decide +kernel
theorem d_Body_signsFrom_98 : decode y_Body_signsFrom.2.1 98 = .ok (.iload_n 1, 1) := by decide +kernel
theorem d_Body_signsFrom_99 : decode y_Body_signsFrom.2.1 99 = .ok (.iconst 1, 1) := by decide +kernel
theorem d_Body_signsFrom_100 : decode y_Body_signsFrom.2.1 100 = .ok (.iadd, 1) := by decide +kernel
theorem d_Body_signsFrom_101 : decode y_Body_signsFrom.2.1 101 = .ok (.invokevirtual 227, 3) := by decide +kernel
theorem d_Body_signsFrom_104 : decode y_Body_signsFrom.2.1 104 = .ok (.goto 7, 3) := by decide +kernel
theorem d_Body_signsFrom_107 : decode y_Body_signsFrom.2.1 107 = .ok (.aload_n 0, 1) := by decide +kernel
theorem d_Body_signsFrom_108 : decode y_Body_signsFrom.2.1 108 = .ok (.invokevirtual 233, 3) := by decide +kernel
theorem d_Body_signsFrom_111 : decode y_Body_signsFrom.2.1 111 = .ok (.istore 7, 2) := by decide +kernel
theorem d_Body_signsFrom_113 : decode y_Body_signsFrom.2.1 113 = .ok (.aload_n 0, 1) := by decide +kernel
theorem d_Body_signsFrom_114 : decode y_Body_signsFrom.2.1 114 = .ok (.iload 4, 2) := by decide +kernel
theorem d_Body_signsFrom_116 : decode y_Body_signsFrom.2.1 116 = .ok (.iload 5, 2) := by decide +kernel
theorem d_Body_signsFrom_118 : decode y_Body_signsFrom.2.1 118 = .ok (.iload_n 2, 1) := by decide +kernel
theorem d_Body_signsFrom_119 : decode y_Body_signsFrom.2.1 119 = .ok (.iload 7, 2) := by decide +kernel
theorem d_Body_signsFrom_121 : decode y_Body_signsFrom.2.1 121 = .ok (.invokevirtual 240, 3) := by decide +kernel
theorem d_Body_signsFrom_124 : decode y_Body_signsFrom.2.1 124 = .ok (.istore_n 2, 1) := by decide +kernel
theorem d_Body_signsFrom_125 : decode y_Body_signsFrom.2.1 125 = .ok (.aload_n 0, 1) := by decide +kernel
theorem d_Body_signsFrom_126 : decode y_Body_signsFrom.2.1 126 = .ok (.getfield 17, 3) := by decide +kernel
theorem d_Body_signsFrom_129 : decode y_Body_signsFrom.2.1 129 = .ok (.iload 6, 2) := by decide +kernel
theorem d_Body_signsFrom_131 : decode y_Body_signsFrom.2.1 131 = .ok (.invokevirtual 120, 3) := by decide +kernel
theorem d_Body_signsFrom_134 : decode y_Body_signsFrom.2.1 134 = .ok (.iload_n 1, 1) := by decide +kernel
theorem d_Body_signsFrom_135 : decode y_Body_signsFrom.2.1 135 = .ok (.iconst 2, 1) := by decide +kernel
theorem d_Body_signsFrom_136 : decode y_Body_signsFrom.2.1 136 = .ok (.if_icmp .ne 6, 3) := by decide +kernel
theorem d_Body_signsFrom_139 : decode y_Body_signsFrom.2.1 139 = .ok (.goto 9, 3) := by decide +kernel
theorem d_Body_signsFrom_142 : decode y_Body_signsFrom.2.1 142 = .ok (.iinc 3 1, 3) := by decide +kernel
theorem d_Body_signsFrom_145 : decode y_Body_signsFrom.2.1 145 = .ok (.goto (-123), 3) := by decide +kernel
theorem d_Body_signsFrom_148 : decode y_Body_signsFrom.2.1 148 = .ok (.iload_n 2, 1) := by decide +kernel
theorem d_Body_signsFrom_149 : decode y_Body_signsFrom.2.1 149 = .ok (.ireturn, 1) := by decide +kernel
theorem s_Body_signsFrom : ab_Stat y_Body_signsFrom 1 := ⟨(k5 144 rfl rfl), (k1 8 rfl rfl), ⟨by decide, by decide⟩, by decide +kernel⟩
theorem i_Body_signsFrom : Cond.instanceMethod y_Body_signsFrom.1 ∈ ab_T := (k5 143 rfl rfl)
theorem v_Body_signsFrom : Cond.selects "WorldEngine$Body" y_Body_signsFrom.1 y_Body_signsFrom.1 ∈ ab_T := ab_s (List.mem_of_getElem? (i := 26) rfl) rfl
def y_Body_unary : ab_Y := (⟨"WorldEngine$Body", "unary", "()I"⟩, prog_2_method_38_code, 1, (some FieldType.int), [])
theorem d_Body_unary_0 : decode y_Body_unary.2.1 0 = .ok (.aload_n 0, 1) := by decide +kernel
theorem d_Body_unary_1 : decode y_Body_unary.2.1 1 = .ok (.getfield 7, 3) := by decide +kernel
theorem d_Body_unary_4 : decode y_Body_unary.2.1 4 = .ok (.getfield 45, 3) := by decide +kernel
theorem d_Body_unary_7 : decode y_Body_unary.2.1 7 = .ok (.lookupswitch 179 #[(2, 174), (12, 109), (19, 97), (25, 97), (49, 151), (51, 160), (76, 115), (77, 124), (78, 133), (79, 142), (80, 169)], 97) := by decide +kernel
theorem d_Body_unary_104 : decode y_Body_unary.2.1 104 = .ok (.aload_n 0, 1) := by decide +kernel
theorem d_Body_unary_105 : decode y_Body_unary.2.1 105 = .ok (.aload_n 0, 1) := by decide +kernel
theorem d_Body_unary_106 : decode y_Body_unary.2.1 106 = .ok (.getfield 7, 3) := by decide +kernel
theorem d_Body_unary_109 : decode y_Body_unary.2.1 109 = .ok (.getfield 45, 3) := by decide +kernel
theorem d_Body_unary_112 : decode y_Body_unary.2.1 112 = .ok (.invokevirtual 248, 3) := by decide +kernel
theorem d_Body_unary_115 : decode y_Body_unary.2.1 115 = .ok (.ireturn, 1) := by decide +kernel
theorem d_Body_unary_116 : decode y_Body_unary.2.1 116 = .ok (.aload_n 0, 1) := by decide +kernel
theorem d_Body_unary_117 : decode y_Body_unary.2.1 117 = .ok (.iconst (-1), 1) := by decide +kernel
theorem d_Body_unary_118 : decode y_Body_unary.2.1 118 = .ok (.invokevirtual 141, 3) := by decide +kernel
theorem d_Body_unary_121 : decode y_Body_unary.2.1 121 = .ok (.ireturn, 1) := by decide +kernel
theorem d_Body_unary_122 : decode y_Body_unary.2.1 122 = .ok (.aload_n 0, 1) := by decide +kernel
theorem d_Body_unary_123 : decode y_Body_unary.2.1 123 = .ok (.iconst 0, 1) := by decide +kernel
theorem d_Body_unary_124 : decode y_Body_unary.2.1 124 = .ok (.bipush 39, 2) := by decide +kernel
theorem d_Body_unary_126 : decode y_Body_unary.2.1 126 = .ok (.iconst 0, 1) := by decide +kernel
theorem d_Body_unary_127 : decode y_Body_unary.2.1 127 = .ok (.invokevirtual 251, 3) := by decide +kernel
theorem d_Body_unary_130 : decode y_Body_unary.2.1 130 = .ok (.ireturn, 1) := by decide +kernel
theorem d_Body_unary_131 : decode y_Body_unary.2.1 131 = .ok (.aload_n 0, 1) := by decide +kernel
theorem d_Body_unary_132 : decode y_Body_unary.2.1 132 = .ok (.iconst 0, 1) := by decide +kernel
theorem d_Body_unary_133 : decode y_Body_unary.2.1 133 = .ok (.bipush 40, 2) := by decide +kernel
theorem d_Body_unary_135 : decode y_Body_unary.2.1 135 = .ok (.iconst 0, 1) := by decide +kernel
theorem d_Body_unary_136 : decode y_Body_unary.2.1 136 = .ok (.invokevirtual 251, 3) := by decide +kernel
theorem d_Body_unary_139 : decode y_Body_unary.2.1 139 = .ok (.ireturn, 1) := by decide +kernel
theorem d_Body_unary_140 : decode y_Body_unary.2.1 140 = .ok (.aload_n 0, 1) := by decide +kernel
theorem d_Body_unary_141 : decode y_Body_unary.2.1 141 = .ok (.iconst 4, 1) := by decide +kernel
theorem d_Body_unary_142 : decode y_Body_unary.2.1 142 = .ok (.bipush 41, 2) := by decide +kernel
theorem d_Body_unary_144 : decode y_Body_unary.2.1 144 = .ok (.iconst 3, 1) := by decide +kernel
theorem d_Body_unary_145 : decode y_Body_unary.2.1 145 = .ok (.invokevirtual 251, 3) := by decide +kernel
theorem d_Body_unary_148 : decode y_Body_unary.2.1 148 = .ok (.ireturn, 1) := by decide +kernel
theorem d_Body_unary_149 : decode y_Body_unary.2.1 149 = .ok (.aload_n 0, 1) := by decide +kernel
theorem d_Body_unary_150 : decode y_Body_unary.2.1 150 = .ok (.iconst 2, 1) := by decide +kernel
theorem d_Body_unary_151 : decode y_Body_unary.2.1 151 = .ok (.bipush 75, 2) := by decide +kernel
theorem d_Body_unary_153 : decode y_Body_unary.2.1 153 = .ok (.iconst 2, 1) := by decide +kernel
theorem d_Body_unary_154 : decode y_Body_unary.2.1 154 = .ok (.invokevirtual 251, 3) := by decide +kernel
theorem d_Body_unary_157 : decode y_Body_unary.2.1 157 = .ok (.ireturn, 1) := by decide +kernel
theorem d_Body_unary_158 : decode y_Body_unary.2.1 158 = .ok (.aload_n 0, 1) := by decide +kernel
theorem d_Body_unary_159 : decode y_Body_unary.2.1 159 = .ok (.iconst 2, 1) := by decide +kernel
theorem d_Body_unary_160 : decode y_Body_unary.2.1 160 = .ok (.bipush 76, 2) := by decide +kernel
theorem d_Body_unary_162 : decode y_Body_unary.2.1 162 = .ok (.iconst 0, 1) := by decide +kernel
theorem d_Body_unary_163 : decode y_Body_unary.2.1 163 = .ok (.invokevirtual 251, 3) := by decide +kernel
theorem d_Body_unary_166 : decode y_Body_unary.2.1 166 = .ok (.ireturn, 1) := by decide +kernel
theorem d_Body_unary_167 : decode y_Body_unary.2.1 167 = .ok (.aload_n 0, 1) := by decide +kernel
theorem d_Body_unary_168 : decode y_Body_unary.2.1 168 = .ok (.iconst 0, 1) := by decide +kernel
theorem d_Body_unary_169 : decode y_Body_unary.2.1 169 = .ok (.bipush 77, 2) := by decide +kernel
theorem d_Body_unary_171 : decode y_Body_unary.2.1 171 = .ok (.iconst 2, 1) := by decide +kernel
theorem d_Body_unary_172 : decode y_Body_unary.2.1 172 = .ok (.invokevirtual 251, 3) := by decide +kernel
theorem d_Body_unary_175 : decode y_Body_unary.2.1 175 = .ok (.ireturn, 1) := by decide +kernel
theorem d_Body_unary_176 : decode y_Body_unary.2.1 176 = .ok (.aload_n 0, 1) := by decide +kernel
theorem d_Body_unary_177 : decode y_Body_unary.2.1 177 = .ok (.invokevirtual 255, 3) := by decide +kernel
theorem d_Body_unary_180 : decode y_Body_unary.2.1 180 = .ok (.ireturn, 1) := by decide +kernel
theorem d_Body_unary_181 : decode y_Body_unary.2.1 181 = .ok (.aload_n 0, 1) := by decide +kernel
theorem d_Body_unary_182 : decode y_Body_unary.2.1 182 = .ok (.invokevirtual 258, 3) := by decide +kernel
theorem d_Body_unary_185 : decode y_Body_unary.2.1 185 = .ok (.ireturn, 1) := by decide +kernel
theorem d_Body_unary_186 : decode y_Body_unary.2.1 186 = .ok (.aload_n 0, 1) := by decide +kernel
theorem d_Body_unary_187 : decode y_Body_unary.2.1 187 = .ok (.aload_n 0, 1) := by decide +kernel
theorem d_Body_unary_188 : decode y_Body_unary.2.1 188 = .ok (.getfield 7, 3) := by decide +kernel
theorem d_Body_unary_191 : decode y_Body_unary.2.1 191 = .ok (.getfield 45, 3) := by decide +kernel
theorem d_Body_unary_194 : decode y_Body_unary.2.1 194 = .ok (.invokevirtual 261, 3) := by decide +kernel
theorem d_Body_unary_197 : decode y_Body_unary.2.1 197 = .ok (.ireturn, 1) := by decide +kernel
theorem s_Body_unary : ab_Stat y_Body_unary 0 := ⟨(k5 148 rfl rfl), (k1 8 rfl rfl), ⟨by decide, by decide⟩, by decide +kernel⟩
theorem i_Body_unary : Cond.instanceMethod y_Body_unary.1 ∈ ab_T := (k5 147 rfl rfl)
theorem v_Body_unary : Cond.selects "WorldEngine$Body" y_Body_unary.1 y_Body_unary.1 ∈ ab_T := ab_s (List.mem_of_getElem? (i := 27) rfl) rfl
def y_Body_want : ab_Y := (⟨"WorldEngine$Body", "want", "(I)I"⟩, prog_2_method_29_code, 4, (some FieldType.int), [])
theorem d_Body_want_0 : decode y_Body_want.2.1 0 = .ok (.aload_n 0, 1) := by decide +kernel
theorem d_Body_want_1 : decode y_Body_want.2.1 1 = .ok (.getfield 7, 3) := by decide +kernel
theorem d_Body_want_4 : decode y_Body_want.2.1 4 = .ok (.getfield 96, 3) := by decide +kernel
theorem d_Body_want_7 : decode y_Body_want.2.1 7 = .ok (.istore_n 2, 1) := by decide +kernel
theorem d_Body_want_8 : decode y_Body_want.2.1 8 = .ok (.aload_n 0, 1) := by decide +kernel
theorem d_Body_want_9 : decode y_Body_want.2.1 9 = .ok (.iconst 0, 1) := by decide +kernel
theorem d_Body_want_10 : decode y_Body_want.2.1 10 = .ok (.invokevirtual 227, 3) := by decide +kernel
theorem d_Body_want_13 : decode y_Body_want.2.1 13 = .ok (.istore_n 3, 1) := by decide +kernel
theorem d_Body_want_14 : decode y_Body_want.2.1 14 = .ok (.iload_n 1, 1) := by decide +kernel
theorem d_Body_want_15 : decode y_Body_want.2.1 15 = .ok (.iconst (-1), 1) := by decide +kernel
theorem d_Body_want_16 : decode y_Body_want.2.1 16 = .ok (.if_icmp .eq 20, 3) := by decide +kernel
theorem d_Body_want_19 : decode y_Body_want.2.1 19 = .ok (.iload_n 3, 1) := by decide +kernel
theorem d_Body_want_20 : decode y_Body_want.2.1 20 = .ok (.iload_n 1, 1) := by decide +kernel
theorem d_Body_want_21 : decode y_Body_want.2.1 21 = .ok (.invokestatic 230, 3) := by decide +kernel
theorem d_Body_want_24 : decode y_Body_want.2.1 24 = .ok (.if_icmp .eq 12, 3) := by decide +kernel
theorem d_Body_want_27 : decode y_Body_want.2.1 27 = .ok (.aload_n 0, 1) := by decide +kernel
theorem d_Body_want_28 : decode y_Body_want.2.1 28 = .ok (.getfield 7, 3) := by decide +kernel
theorem d_Body_want_31 : decode y_Body_want.2.1 31 = .ok (.iconst 5, 1) := by decide +kernel
theorem d_Body_want_32 : decode y_Body_want.2.1 32 = .ok (.iload_n 2, 1) := by decide +kernel
theorem d_Body_want_33 : decode y_Body_want.2.1 33 = .ok (.invokevirtual 99, 3) := by decide +kernel
theorem d_Body_want_36 : decode y_Body_want.2.1 36 = .ok (.iload_n 1, 1) := by decide +kernel
theorem d_Body_want_37 : decode y_Body_want.2.1 37 = .ok (.iconst 1, 1) := by decide +kernel
theorem d_Body_want_38 : decode y_Body_want.2.1 38 = .ok (.if_icmp .ne 13, 3) := by decide +kernel
theorem d_Body_want_41 : decode y_Body_want.2.1 41 = .ok (.aload_n 0, 1) := by decide +kernel
theorem d_Body_want_42 : decode y_Body_want.2.1 42 = .ok (.getfield 17, 3) := by decide +kernel
theorem d_Body_want_45 : decode y_Body_want.2.1 45 = .ok (.bipush 43, 2) := by decide +kernel
theorem d_Body_want_47 : decode y_Body_want.2.1 47 = .ok (.invokevirtual 50, 3) := by decide +kernel
theorem d_Body_want_50 : decode y_Body_want.2.1 50 = .ok (.pop, 1) := by decide +kernel
theorem d_Body_want_51 : decode y_Body_want.2.1 51 = .ok (.iload_n 3, 1) := by decide +kernel
theorem d_Body_want_52 : decode y_Body_want.2.1 52 = .ok (.ireturn, 1) := by decide +kernel
theorem s_Body_want : ab_Stat y_Body_want 1 := ⟨(k5 140 rfl rfl), (k1 8 rfl rfl), ⟨by decide, by decide⟩, by decide +kernel⟩
theorem i_Body_want : Cond.instanceMethod y_Body_want.1 ∈ ab_T := (k5 139 rfl rfl)
theorem v_Body_want : Cond.selects "WorldEngine$Body" y_Body_want.1 y_Body_want.1 ∈ ab_T := ab_s (List.mem_of_getElem? (i := 25) rfl) rfl
abbrev Orc_BodyE : Type := (Nat → Int32 → Hp → Option ((Ot Int32) × Hp)) × (Nat → Hp → Option ((Ot Int32) × Hp))
def ok_BodyE (o : Orc_BodyE) (fr lo : Nat) : Prop :=
  8 ≤ fr ∧ 152 ≤ lo ∧
  (∀ (a0 : Nat) (a1 : Int32) (H : Hp) (r : (Ot Int32) × Hp), o.1 a0 a1 H = some r → ∀ (C Sl : Nat), r.2.sh.length ≤ H.sh.length + C → r.2.sl ≤ H.sl + Sl → ab_M y_Body_signsFrom { frames := fr, cells := C, slots := Sl, locals := lo } [.ref a0, .int a1] (hpw H) (po (oI r.1) r.2)) ∧
  (∀ (a0 : Nat) (H : Hp) (r : (Ot Int32) × Hp), o.2 a0 H = some r → ∀ (C Sl : Nat), r.2.sh.length ≤ H.sh.length + C → r.2.sl ≤ H.sl + Sl → ab_M y_Body_unary { frames := fr, cells := C, slots := Sl, locals := lo } [.ref a0] (hpw H) (po (oI r.1) r.2))
def mo_BodyE (o : Orc_BodyE) : Prop :=
  (∀ (a0 : Nat) (a1 : Int32) (H : Hp) (r : (Ot Int32) × Hp), o.1 a0 a1 H = some r → Mo H r.2) ∧
  (∀ (a0 : Nat) (H : Hp) (r : (Ot Int32) × Hp), o.2 a0 H = some r → Mo H r.2)
def B_Body_want_36 (N : Nat) (o : Orc_BodyE) (p0 : Nat) (p1 : Int32) (l3 : Int32) (H : Hp) : Option ((Ot Int32) × Hp) :=
    if p1 = (1 : Int32) then
    ck (H.sh[p0]? = some (6, 0)) <|
    rf (H.P p0 1) fun a13 =>
    ck (H.sh[a13]? = some (4, 0)) <|
    bC (F_Program_add N a13 (43 : Int32) H) fun v17 H18 =>
    some (.inl l3, H18)
    else
    some (.inl l3, H)
set_option maxRecDepth 20000 in
set_option maxHeartbeats 2000000 in
theorem mB_Body_want_36 {N : Nat} {o : Orc_BodyE} (hmo : mo_BodyE o) {p0 : Nat} {p1 : Int32} {l3 : Int32} {H : Hp} {r : (Ot Int32) × Hp} (hF : B_Body_want_36 N o p0 p1 l3 H = some r) : Mo H r.2 := by
  unfold B_Body_want_36 at hF
  have hm := Mo.rf H
  rcases ite_s hF with ⟨q_8, hG⟩ | ⟨q_8, hG⟩
  · clear hF
    obtain ⟨q20, hF⟩ := ck_s hG; clear hG
    obtain ⟨a21, e22, hG⟩ := rf_s hF; clear hF
    obtain ⟨q23, hF⟩ := ck_s hG; clear hG
    obtain ⟨v25, H26, z24, hG⟩ := bC_s hF; clear hF
    replace hm : Mo H H26 := hm.tr ((m_Program_add z24)).mo
    have hr := Option.some.inj hG; subst hr
    exact hm
  · clear hF
    have hr := Option.some.inj hG; subst hr
    exact hm
set_option maxRecDepth 20000 in
set_option maxHeartbeats 2000000 in
theorem kB_Body_want_36 {N : Nat} {o : Orc_BodyE} {fr lo : Nat} (ho : ok_BodyE o fr lo) (hmo : mo_BodyE o) {p0 : Nat} {p1 : Int32} {c0 s0 C Sl : Nat} {l3 : Int32} {H : Hp} {r : (Ot Int32) × Hp} (hF : B_Body_want_36 N o p0 p1 l3 H = some r) (hc0 : c0 ≤ H.sh.length) (hs0 : s0 ≤ H.sl) (hcc : H.sh.length ≤ c0 + C) (hss : H.sl ≤ s0 + Sl) (hC : r.2.sh.length ≤ c0 + C) (hS : r.2.sl ≤ s0 + Sl) : ab_V y_Body_want { frames := fr + 1, cells := C, slots := Sl, locals := lo + 27 } (po (oI r.1) r.2) C Sl (H.sh.length - c0) (H.sl - s0) 36 [some (.ref p0), some (.int p1), none, some (.int l3)] [] (hpw H) := by
  unfold B_Body_want_36 at hF
  refine ab_iload_n d_Body_want_36 rfl rfl ?_
  refine ab_iconst (v := 1) d_Body_want_37 (by decide) ?_
  refine ab_icmp_ne (tgt := 51) d_Body_want_38 (by decide) (fun q11 => ?_) (fun q11 => ?_)
  · rw [if_neg q11] at hF
    refine ab_iload_n d_Body_want_51 rfl rfl ?_
    exact ab_iret d_Body_want_52 rfl (by show _ ≤ C; omega) (by show _ ≤ Sl; omega) (by have hr := Option.some.inj hF; subst hr; exact ⟨rfl, rfl⟩)
  · rw [if_pos q11] at hF
    refine ab_aload_n d_Body_want_41 rfl rfl rfl ?_
    obtain ⟨q12, hG⟩ := ck_s hF; clear hF
    obtain ⟨a13, e14, hF⟩ := rf_s hG; clear hG
    refine hp_getR (f := 1) d_Body_want_42 q12 (by decide) rfl (by decide) (k1 158 rfl rfl) rfl e14 ?_
    refine ab_bipush (v := 43) d_Body_want_45 (by decide) ?_
    obtain ⟨q15, hG⟩ := ck_s hF; clear hF
    obtain ⟨v17, H18, z16, hF⟩ := bC_s hG; clear hG
    refine hp_callV_a (v := .int v17) (H1 := H18) (As := [.int 43]) (rest := []) d_Body_want_47 (k_Program_add z16) (ab_mkC s_Program_add (show 0 + 1 ≤ fr + 1 from by have := ho.1; omega) (show 8 + (2 + 11) + 0 ≤ lo + 27 from by have := ho.2.1; omega) (show (H.sh.length - c0) + 0 ≤ C from by omega) (show (H.sl - s0) + 0 ≤ Sl from by omega)) (k5 117 rfl rfl) i_Program_add v_Program_add q15 (by decide) rfl rfl (Nat.le_of_ble_eq_true rfl) ?_
    have s_7 : Sa H H18 := (m_Program_add z16)
    refine ab_widen (cells' := H.sh.length - c0) (slots' := H.sl - s0) (by show (H.sh.length - c0) + 0 ≤ _; omega) (by show (H.sl - s0) + 0 ≤ _; omega) ?_
    refine ab_pop d_Body_want_50 rfl ?_
    refine ab_iload_n d_Body_want_51 rfl rfl ?_
    exact ab_iret d_Body_want_52 rfl (by show _ ≤ C; omega) (by show _ ≤ Sl; omega) (by have hr := Option.some.inj hF; subst hr; exact ⟨rfl, rfl⟩)
def F_Body_want (N : Nat) (o : Orc_BodyE) (p0 : Nat) (p1 : Int32) (H : Hp) : Option ((Ot Int32) × Hp) :=
    ck (H.sh[p0]? = some (6, 0)) <|
    rf (H.P p0 0) fun a2 =>
    ck (H.sh[a2]? = some (1, 0)) <|
    bnd ((H.D a2 3)) fun x5 =>
    bT (o.1 p0 (0 : Int32) H) fun v7 H8 =>
    if p1 = ((-1) : Int32) then
    B_Body_want_36 N o p0 p1 v7 H8
    else
    bC (F_Body_asValue N p1 H8) fun v12 H13 =>
    if v7 = v12 then
    B_Body_want_36 N o p0 p1 v7 H13
    else
    rf (H13.P p0 0) fun a15 =>
    ck (H13.sh[a15]? = some (1, 0)) <|
    bT (F_Lexer_refuse N a15 (5 : Int32) x5 H13) fun v19 H20 =>
    B_Body_want_36 N o p0 p1 v7 H20
set_option maxRecDepth 20000 in
set_option maxHeartbeats 2000000 in
theorem m_Body_want {N : Nat} {o : Orc_BodyE} (hmo : mo_BodyE o) {p0 : Nat} {p1 : Int32} {H : Hp} {r : (Ot Int32) × Hp} (hF : F_Body_want N o p0 p1 H = some r) : Mo H r.2 := by
  unfold F_Body_want at hF
  have hm := Mo.rf H
  obtain ⟨q22, hG⟩ := ck_s hF; clear hF
  obtain ⟨a23, e24, hF⟩ := rf_s hG; clear hG
  obtain ⟨q25, hG⟩ := ck_s hF; clear hF
  obtain ⟨x26, -, hF⟩ := bnd_g hG; clear hG
  refine bT_c hF (fun x30 H29 z27 er => ?_) (fun v28 H29 z27 hG => ?_)
  · subst er; exact hm.tr (hmo.1 _ _ _ _ z27)
  clear hF
  replace hm : Mo H H29 := hm.tr (hmo.1 _ _ _ _ z27)
  rcases ite_s hG with ⟨q_24, hF⟩ | ⟨q_24, hF⟩
  · clear hG
    exact hm.tr (mB_Body_want_36 hmo hF)
  · clear hG
    obtain ⟨v33, H34, z32, hG⟩ := bC_s hF; clear hF
    replace hm : Mo H H34 := hm.tr ((m_Body_asValue z32)).mo
    rcases ite_s hG with ⟨q_25, hF⟩ | ⟨q_25, hF⟩
    · clear hG
      exact hm.tr (mB_Body_want_36 hmo hF)
    · clear hG
      obtain ⟨a36, e37, hG⟩ := rf_s hF; clear hF
      obtain ⟨q38, hF⟩ := ck_s hG; clear hG
      refine bT_c hF (fun x42 H41 z39 er => ?_) (fun v40 H41 z39 hG => ?_)
      · subst er; exact hm.tr (m_Lexer_refuse z39)
      clear hF
      replace hm : Mo H H41 := hm.tr (m_Lexer_refuse z39)
      exact hm.tr (mB_Body_want_36 hmo hG)
set_option maxRecDepth 20000 in
set_option maxHeartbeats 2000000 in
theorem k_Body_want {N : Nat} {o : Orc_BodyE} {fr lo : Nat} (ho : ok_BodyE o fr lo) (hmo : mo_BodyE o) {p0 : Nat} {p1 : Int32} {H : Hp} {r : (Ot Int32) × Hp} {C Sl : Nat} (hF : F_Body_want N o p0 p1 H = some r) (hC : r.2.sh.length ≤ H.sh.length + C) (hS : r.2.sl ≤ H.sl + Sl) : ab_M y_Body_want { frames := fr + 1, cells := C, slots := Sl, locals := lo + 27 } [.ref p0, .int p1] (hpw H) (po (oI r.1) r.2) := by
  unfold F_Body_want at hF
  obtain ⟨c0, e0⟩ : ∃ q, q = H.sh.length := ⟨_, rfl⟩
  obtain ⟨s0, e1⟩ : ∃ q, q = H.sl := ⟨_, rfl⟩
  rw [← e0] at hC
  rw [← e1] at hS
  have hc0 : c0 ≤ H.sh.length := Nat.le_of_eq e0
  have hs0 : s0 ≤ H.sl := Nat.le_of_eq e1
  have hcc : H.sh.length ≤ c0 + C := by omega
  have hss : H.sl ≤ s0 + Sl := by omega
  refine ab_of2 (lv := [some (.ref p0), some (.int p1), none, none]) 2 rfl rfl (Nat.le_of_ble_eq_true rfl) ?_
  refine ab_widen (cells' := H.sh.length - c0) (slots' := H.sl - s0) (Nat.zero_le _) (Nat.zero_le _) ?_
  refine ab_aload_n d_Body_want_0 rfl rfl rfl ?_
  obtain ⟨q1, hG⟩ := ck_s hF; clear hF
  obtain ⟨a2, e3, hF⟩ := rf_s hG; clear hG
  refine hp_getR (f := 0) d_Body_want_1 q1 (by decide) rfl (by decide) (k1 157 rfl rfl) rfl e3 ?_
  obtain ⟨q4, hG⟩ := ck_s hF; clear hF
  refine hp_getI (f := 3) d_Body_want_4 q4 (by decide) rfl (by decide) (k1 103 rfl rfl) rfl ?_
  refine ab_topi (fun x5 ex5 => ?_)
  replace hG := bnd_s ex5 hG
  refine ab_istore_n (lv' := [some (.ref p0), some (.int p1), some (.int x5), none]) d_Body_want_7 rfl (by decide) rfl ?_
  refine ab_aload_n d_Body_want_8 rfl rfl rfl ?_
  refine ab_iconst (v := 0) d_Body_want_9 (by decide) ?_
  refine bT_c hG (fun x9 H8 z6 er => ?_) (fun v7 H8 z6 hF => ?_)
  · subst er
    have mz : Mo H H8 := (hmo.1 _ _ _ _ z6)
    have ml := mz.len
    have m2 := mz.2
    have hC9 : H8.sh.length ≤ c0 + C := hC
    have hS9 : H8.sl ≤ s0 + Sl := hS
    refine hp_callV_t (x := x9) (H1 := H8) (As := [.int 0]) (rest := []) d_Body_want_10 (ho.2.2.1 _ _ _ _ z6 (H8.sh.length - H.sh.length) (H8.sl - H.sl) (by show H8.sh.length ≤ _; omega) (by show H8.sl ≤ _; omega)) (ab_mkC s_Body_signsFrom (show fr + 1 ≤ fr + 1 from by have := ho.1; omega) (show 8 + (8 + 11) + lo ≤ lo + 27 from by have := ho.2.1; omega) (show (H.sh.length - c0) + (H8.sh.length - H.sh.length) ≤ C from by omega) (show (H.sl - s0) + (H8.sl - H.sl) ≤ Sl from by omega)) (k5 141 rfl rfl) i_Body_signsFrom v_Body_signsFrom q1 (by decide) rfl rfl (Nat.le_of_ble_eq_true rfl) ?_
    exact ab_U_out rfl (by show _ + (H8.sh.length - H.sh.length) ≤ C; omega) (by show _ + (H8.sl - H.sl) ≤ Sl; omega) ⟨rfl, rfl⟩
  clear hG
  have mz_1 : Mo H H8 := (hmo.1 _ _ _ _ z6)
  have b_2l := (mz_1).len
  have b_2s := (mz_1).2
  have b_2c : c0 ≤ H8.sh.length := by omega
  have b_2d : s0 ≤ H8.sl := by omega
  have q_3 := (mz_1).get q1
  have q_4 := (mz_1).get q4
  have fH8 : Mo H8 r.2 := by
    have hm := Mo.rf H8
    rcases ite_s hF with ⟨q_5, hG⟩ | ⟨q_5, hG⟩
    · clear hF
      exact hm.tr (mB_Body_want_36 hmo hG)
    · clear hF
      obtain ⟨v28, H29, z27, hF⟩ := bC_s hG; clear hG
      replace hm : Mo H8 H29 := hm.tr ((m_Body_asValue z27)).mo
      rcases ite_s hF with ⟨q_9, hG⟩ | ⟨q_9, hG⟩
      · clear hF
        exact hm.tr (mB_Body_want_36 hmo hG)
      · clear hF
        obtain ⟨a31, e32, hF⟩ := rf_s hG; clear hG
        obtain ⟨q33, hG⟩ := ck_s hF; clear hF
        refine bT_c hG (fun x37 H36 z34 er => ?_) (fun v35 H36 z34 hF => ?_)
        · subst er; exact hm.tr (m_Lexer_refuse z34)
        clear hG
        replace hm : Mo H8 H36 := hm.tr (m_Lexer_refuse z34)
        exact hm.tr (mB_Body_want_36 hmo hF)
  have b_2m := (fH8).len
  have b_2n := (fH8).2
  have b_2p : H8.sh.length ≤ c0 + C := by omega
  have b_2q : H8.sl ≤ s0 + Sl := by omega
  refine hp_callV_a (v := .int v7) (H1 := H8) (As := [.int 0]) (rest := []) d_Body_want_10 (ho.2.2.1 _ _ _ _ z6 (H8.sh.length - H.sh.length) (H8.sl - H.sl) (by show H8.sh.length ≤ _; omega) (by show H8.sl ≤ _; omega)) (ab_mkC s_Body_signsFrom (show fr + 1 ≤ fr + 1 from by have := ho.1; omega) (show 8 + (8 + 11) + lo ≤ lo + 27 from by have := ho.2.1; omega) (show (H.sh.length - c0) + (H8.sh.length - H.sh.length) ≤ C from by omega) (show (H.sl - s0) + (H8.sl - H.sl) ≤ Sl from by omega)) (k5 141 rfl rfl) i_Body_signsFrom v_Body_signsFrom q1 (by decide) rfl rfl (Nat.le_of_ble_eq_true rfl) ?_
  refine ab_widen (cells' := H8.sh.length - c0) (slots' := H8.sl - s0) (by show _ + (H8.sh.length - H.sh.length) ≤ _; omega) (by show _ + (H8.sl - H.sl) ≤ _; omega) ?_
  clear b_2l b_2s b_2m b_2n
  refine ab_istore_n (lv' := [some (.ref p0), some (.int p1), some (.int x5), some (.int v7)]) d_Body_want_13 rfl (by decide) rfl ?_
  refine ab_iload_n d_Body_want_14 rfl rfl ?_
  refine ab_iconst (v := (-1)) d_Body_want_15 (by decide) ?_
  refine ab_icmp_eq (tgt := 36) d_Body_want_16 (by decide) (fun q10 => ?_) (fun q10 => ?_)
  · rw [if_pos q10] at hF
    refine ab_le (lv' := [some (.ref p0), some (.int p1), none, some (.int v7)]) ⟨rfl, ⟨rfl, ⟨rfl, trivial⟩⟩⟩ ?_
    exact kB_Body_want_36 ho hmo hF b_2c b_2d b_2p b_2q hC hS
  · rw [if_neg q10] at hF
    refine ab_iload_n d_Body_want_19 rfl rfl ?_
    refine ab_iload_n d_Body_want_20 rfl rfl ?_
    obtain ⟨v12, H13, z11, hG⟩ := bC_s hF; clear hF
    refine hp_callS_a (v := .int v12) (H1 := H13) (As := [.int p1]) (rest := [.int v7]) d_Body_want_21 (k_Body_asValue z11) (ab_mkC s_Body_asValue (show 0 + 1 ≤ fr + 1 from by have := ho.1; omega) (show 8 + (1 + 11) + 0 ≤ lo + 27 from by have := ho.2.1; omega) (show (H8.sh.length - c0) + 0 ≤ C from by omega) (show (H8.sl - s0) + 0 ≤ Sl from by omega)) (k5 202 rfl rfl) t_Body_asValue rfl (Nat.le_of_ble_eq_true rfl) ?_
    have s_15 : Sa H8 H13 := (m_Body_asValue z11)
    refine ab_widen (cells' := H8.sh.length - c0) (slots' := H8.sl - s0) (by show (H8.sh.length - c0) + 0 ≤ _; omega) (by show (H8.sl - s0) + 0 ≤ _; omega) ?_
    refine ab_icmp_eq (tgt := 36) d_Body_want_24 (by decide) (fun q14 => ?_) (fun q14 => ?_)
    · rw [if_pos q14] at hG
      refine ab_le (lv' := [some (.ref p0), some (.int p1), none, some (.int v7)]) ⟨rfl, ⟨rfl, ⟨rfl, trivial⟩⟩⟩ ?_
      refine ab_widen (cells' := H13.sh.length - c0) (slots' := H13.sl - s0) (by rw [(s_15).1]; exact Nat.le_refl _) (by rw [(s_15).2]; exact Nat.le_refl _) ?_
      exact kB_Body_want_36 ho hmo hG (by rw [(s_15).1]; exact b_2c) (by rw [(s_15).2]; exact b_2d) (by rw [(s_15).1]; exact b_2p) (by rw [(s_15).2]; exact b_2q) hC hS
    · rw [if_neg q14] at hG
      refine ab_aload_n d_Body_want_27 rfl rfl rfl ?_
      obtain ⟨a15, e16, hF⟩ := rf_s hG; clear hG
      refine hp_getR (f := 0) d_Body_want_28 (by rw [(s_15).1]; exact q_3) (by decide) rfl (by decide) (k1 157 rfl rfl) rfl e16 ?_
      refine ab_iconst (v := 5) d_Body_want_31 (by decide) ?_
      refine ab_iload_n d_Body_want_32 rfl rfl ?_
      obtain ⟨q17, hG⟩ := ck_s hF; clear hF
      rw [(s_15).1] at q17
      refine bT_c hG (fun x21 H20 z18 er => ?_) (fun v19 H20 z18 hF => ?_)
      · subst er
        refine ab_widen (cells' := H13.sh.length - c0) (slots' := H13.sl - s0) (by rw [(s_15).1]; exact Nat.le_refl _) (by rw [(s_15).2]; exact Nat.le_refl _) ?_
        have mz : Mo H13 H20 := (m_Lexer_refuse z18)
        have ml := mz.len
        have m2 := mz.2
        have be := congrArg List.length (s_15).1
        have bfx := (s_15).2
        have hC9 : H20.sh.length ≤ c0 + C := hC
        have hS9 : H20.sl ≤ s0 + Sl := hS
        refine hp_callV_t (x := x21) (H1 := H20) (As := [.int 5, .int x5]) (rest := []) d_Body_want_33 (k_Lexer_refuse z18 (C := H20.sh.length - H13.sh.length) (Sl := H20.sl - H13.sl) (by show H20.sh.length ≤ _; omega) (by show H20.sl ≤ _; omega)) (ab_mkC s_Lexer_refuse (show 6 + 1 ≤ fr + 1 from by have := ho.1; omega) (show 8 + (3 + 11) + 100 ≤ lo + 27 from by have := ho.2.1; omega) (show (H13.sh.length - c0) + (H20.sh.length - H13.sh.length) ≤ C from by omega) (show (H13.sl - s0) + (H20.sl - H13.sl) ≤ Sl from by omega)) (k5 135 rfl rfl) i_Lexer_refuse v_Lexer_refuse (by rw [(s_15).1]; exact q17) (by decide) rfl rfl (Nat.le_of_ble_eq_true rfl) ?_
        exact ab_U_out rfl (by show _ + (H20.sh.length - H13.sh.length) ≤ C; omega) (by show _ + (H20.sl - H13.sl) ≤ Sl; omega) ⟨rfl, rfl⟩
      clear hG
      refine ab_widen (cells' := H13.sh.length - c0) (slots' := H13.sl - s0) (by rw [(s_15).1]; exact Nat.le_refl _) (by rw [(s_15).2]; exact Nat.le_refl _) ?_
      have mz_16 : Mo H13 H20 := (m_Lexer_refuse z18)
      have b_17l := (mz_16).len
      have b_17s := (mz_16).2
      have b_17e := congrArg List.length (s_15).1
      have b_17f := (s_15).2
      have b_17c : c0 ≤ H20.sh.length := by omega
      have b_17d : s0 ≤ H20.sl := by omega
      have q_18 := (mz_16).get (by rw [(s_15).1]; exact q_3)
      have q_19 := (mz_16).get (by rw [(s_15).1]; exact q_4)
      have q_20 := (mz_16).get (by rw [(s_15).1]; exact q17)
      have fH20 : Mo H20 r.2 := by
        have hm := Mo.rf H20
        exact hm.tr (mB_Body_want_36 hmo hF)
      have b_17m := (fH20).len
      have b_17n := (fH20).2
      have b_17p : H20.sh.length ≤ c0 + C := by omega
      have b_17q : H20.sl ≤ s0 + Sl := by omega
      refine hp_callV_v (H1 := H20) (As := [.int 5, .int x5]) (rest := []) d_Body_want_33 (k_Lexer_refuse z18 (C := H20.sh.length - H13.sh.length) (Sl := H20.sl - H13.sl) (by show H20.sh.length ≤ _; omega) (by show H20.sl ≤ _; omega)) (ab_mkC s_Lexer_refuse (show 6 + 1 ≤ fr + 1 from by have := ho.1; omega) (show 8 + (3 + 11) + 100 ≤ lo + 27 from by have := ho.2.1; omega) (show (H13.sh.length - c0) + (H20.sh.length - H13.sh.length) ≤ C from by omega) (show (H13.sl - s0) + (H20.sl - H13.sl) ≤ Sl from by omega)) (k5 135 rfl rfl) i_Lexer_refuse v_Lexer_refuse (by rw [(s_15).1]; exact q17) (by decide) rfl rfl (Nat.le_of_ble_eq_true rfl) ?_
      refine ab_widen (cells' := H20.sh.length - c0) (slots' := H20.sl - s0) (by show _ + (H20.sh.length - H13.sh.length) ≤ _; omega) (by show _ + (H20.sl - H13.sl) ≤ _; omega) ?_
      clear b_17l b_17s b_17m b_17n b_17e b_17f b_2c b_2d b_2p b_2q
      refine ab_le (lv' := [some (.ref p0), some (.int p1), none, some (.int v7)]) ⟨rfl, ⟨rfl, ⟨rfl, trivial⟩⟩⟩ ?_
      exact kB_Body_want_36 ho hmo hF b_17c b_17d b_17p b_17q hC hS
def y_Body_readHas : ab_Y := (⟨"WorldEngine$Body", "readHas", "()I"⟩, prog_2_method_41_code, 2, (some FieldType.int), [])
theorem d_Body_readHas_0 : decode y_Body_readHas.2.1 0 = .ok (.aload_n 0, 1) := by decide +kernel
theorem d_Body_readHas_1 : decode y_Body_readHas.2.1 1 = .ok (.getfield 7, 3) := by decide +kernel
theorem d_Body_readHas_4 : decode y_Body_readHas.2.1 4 = .ok (.invokevirtual 93, 3) := by decide +kernel
theorem d_Body_readHas_7 : decode y_Body_readHas.2.1 7 = .ok (.aload_n 0, 1) := by decide +kernel
theorem d_Body_readHas_8 : decode y_Body_readHas.2.1 8 = .ok (.invokevirtual 211, 3) := by decide +kernel
theorem d_Body_readHas_11 : decode y_Body_readHas.2.1 11 = .ok (.aload_n 0, 1) := by decide +kernel
theorem d_Body_readHas_12 : decode y_Body_readHas.2.1 12 = .ok (.iconst 4, 1) := by decide +kernel
theorem d_Body_readHas_13 : decode y_Body_readHas.2.1 13 = .ok (.invokevirtual 111, 3) := by decide +kernel
theorem d_Body_readHas_16 : decode y_Body_readHas.2.1 16 = .ok (.pop, 1) := by decide +kernel
theorem d_Body_readHas_17 : decode y_Body_readHas.2.1 17 = .ok (.aload_n 0, 1) := by decide +kernel
theorem d_Body_readHas_18 : decode y_Body_readHas.2.1 18 = .ok (.getfield 7, 3) := by decide +kernel
theorem d_Body_readHas_21 : decode y_Body_readHas.2.1 21 = .ok (.bipush 14, 2) := by decide +kernel
theorem d_Body_readHas_23 : decode y_Body_readHas.2.1 23 = .ok (.invokevirtual 41, 3) := by decide +kernel
theorem d_Body_readHas_26 : decode y_Body_readHas.2.1 26 = .ok (.aload_n 0, 1) := by decide +kernel
theorem d_Body_readHas_27 : decode y_Body_readHas.2.1 27 = .ok (.iconst 0, 1) := by decide +kernel
theorem d_Body_readHas_28 : decode y_Body_readHas.2.1 28 = .ok (.invokevirtual 134, 3) := by decide +kernel
theorem d_Body_readHas_31 : decode y_Body_readHas.2.1 31 = .ok (.istore_n 1, 1) := by decide +kernel
theorem d_Body_readHas_32 : decode y_Body_readHas.2.1 32 = .ok (.aload_n 0, 1) := by decide +kernel
theorem d_Body_readHas_33 : decode y_Body_readHas.2.1 33 = .ok (.invokevirtual 218, 3) := by decide +kernel
theorem d_Body_readHas_36 : decode y_Body_readHas.2.1 36 = .ok (.aload_n 0, 1) := by decide +kernel
theorem d_Body_readHas_37 : decode y_Body_readHas.2.1 37 = .ok (.getfield 17, 3) := by decide +kernel
theorem d_Body_readHas_40 : decode y_Body_readHas.2.1 40 = .ok (.bipush 42, 2) := by decide +kernel
theorem d_Body_readHas_42 : decode y_Body_readHas.2.1 42 = .ok (.invokevirtual 50, 3) := by decide +kernel
theorem d_Body_readHas_45 : decode y_Body_readHas.2.1 45 = .ok (.pop, 1) := by decide +kernel
theorem d_Body_readHas_46 : decode y_Body_readHas.2.1 46 = .ok (.aload_n 0, 1) := by decide +kernel
theorem d_Body_readHas_47 : decode y_Body_readHas.2.1 47 = .ok (.getfield 17, 3) := by decide +kernel
theorem d_Body_readHas_50 : decode y_Body_readHas.2.1 50 = .ok (.iload_n 1, 1) := by decide +kernel
theorem d_Body_readHas_51 : decode y_Body_readHas.2.1 51 = .ok (.invokevirtual 50, 3) := by decide +kernel
theorem d_Body_readHas_54 : decode y_Body_readHas.2.1 54 = .ok (.pop, 1) := by decide +kernel
theorem d_Body_readHas_55 : decode y_Body_readHas.2.1 55 = .ok (.iconst 3, 1) := by decide +kernel
theorem d_Body_readHas_56 : decode y_Body_readHas.2.1 56 = .ok (.ireturn, 1) := by decide +kernel
theorem s_Body_readHas : ab_Stat y_Body_readHas 0 := ⟨(k5 176 rfl rfl), (k1 8 rfl rfl), ⟨by decide, by decide⟩, by decide +kernel⟩
theorem i_Body_readHas : Cond.instanceMethod y_Body_readHas.1 ∈ ab_T := (k5 175 rfl rfl)
theorem v_Body_readHas : Cond.selects "WorldEngine$Body" y_Body_readHas.1 y_Body_readHas.1 ∈ ab_T := ab_s (List.mem_of_getElem? (i := 34) rfl) rfl
def F_Body_readHas (N : Nat) (o : Orc_BodyE) (p0 : Nat) (H : Hp) : Option ((Ot Int32) × Hp) :=
    ck (H.sh[p0]? = some (6, 0)) <|
    rf (H.P p0 0) fun a2 =>
    ck (H.sh[a2]? = some (1, 0)) <|
    bC (F_Lexer_advance N a2 H) fun v6 H7 =>
    bT (F_Body_openParens N p0 H7) fun v9 H10 =>
    bT (F_Body_want N o p0 (4 : Int32) H10) fun v13 H14 =>
    rf (H14.P p0 0) fun a16 =>
    ck (H14.sh[a16]? = some (1, 0)) <|
    bT (F_Lexer_take N a16 (14 : Int32) H14) fun v20 H21 =>
    bT (F_Body_numberHere N p0 (0 : Int32) H21) fun v24 H25 =>
    bT (F_Body_closeParens N p0 H25) fun v28 H29 =>
    rf (H29.P p0 1) fun a31 =>
    ck (H29.sh[a31]? = some (4, 0)) <|
    bC (F_Program_add N a31 (42 : Int32) H29) fun v35 H36 =>
    rf (H36.P p0 1) fun a37 =>
    ck (H36.sh[a37]? = some (4, 0)) <|
    bC (F_Program_add N a37 v24 H36) fun v41 H42 =>
    some (.inl 3, H42)
set_option maxRecDepth 20000 in
set_option maxHeartbeats 2000000 in
theorem m_Body_readHas {N : Nat} {o : Orc_BodyE} (hmo : mo_BodyE o) {p0 : Nat} {H : Hp} {r : (Ot Int32) × Hp} (hF : F_Body_readHas N o p0 H = some r) : Mo H r.2 := by
  unfold F_Body_readHas at hF
  have hm := Mo.rf H
  obtain ⟨q43, hG⟩ := ck_s hF; clear hF
  obtain ⟨a44, e45, hF⟩ := rf_s hG; clear hG
  obtain ⟨q46, hG⟩ := ck_s hF; clear hF
  obtain ⟨v48, H49, z47, hF⟩ := bC_s hG; clear hG
  replace hm : Mo H H49 := hm.tr ((m_Lexer_advance z47)).mo
  refine bT_c hF (fun x53 H52 z50 er => ?_) (fun v51 H52 z50 hG => ?_)
  · subst er; exact hm.tr (m_Body_openParens z50)
  clear hF
  replace hm : Mo H H52 := hm.tr (m_Body_openParens z50)
  refine bT_c hG (fun x57 H56 z54 er => ?_) (fun v55 H56 z54 hF => ?_)
  · subst er; exact hm.tr (m_Body_want hmo z54)
  clear hG
  replace hm : Mo H H56 := hm.tr (m_Body_want hmo z54)
  obtain ⟨a58, e59, hG⟩ := rf_s hF; clear hF
  obtain ⟨q60, hF⟩ := ck_s hG; clear hG
  refine bT_c hF (fun x64 H63 z61 er => ?_) (fun v62 H63 z61 hG => ?_)
  · subst er; exact hm.tr (m_Lexer_take z61)
  clear hF
  replace hm : Mo H H63 := hm.tr (m_Lexer_take z61)
  refine bT_c hG (fun x68 H67 z65 er => ?_) (fun v66 H67 z65 hF => ?_)
  · subst er; exact hm.tr (m_Body_numberHere z65)
  clear hG
  replace hm : Mo H H67 := hm.tr (m_Body_numberHere z65)
  refine bT_c hF (fun x72 H71 z69 er => ?_) (fun v70 H71 z69 hG => ?_)
  · subst er; exact hm.tr (m_Body_closeParens z69)
  clear hF
  replace hm : Mo H H71 := hm.tr (m_Body_closeParens z69)
  obtain ⟨a73, e74, hF⟩ := rf_s hG; clear hG
  obtain ⟨q75, hG⟩ := ck_s hF; clear hF
  obtain ⟨v77, H78, z76, hF⟩ := bC_s hG; clear hG
  replace hm : Mo H H78 := hm.tr ((m_Program_add z76)).mo
  obtain ⟨a79, e80, hG⟩ := rf_s hF; clear hF
  obtain ⟨q81, hF⟩ := ck_s hG; clear hG
  obtain ⟨v83, H84, z82, hG⟩ := bC_s hF; clear hF
  replace hm : Mo H H84 := hm.tr ((m_Program_add z82)).mo
  have hr := Option.some.inj hG; subst hr
  exact hm
set_option maxRecDepth 20000 in
set_option maxHeartbeats 2000000 in
theorem k_Body_readHas {N : Nat} {o : Orc_BodyE} {fr lo : Nat} (ho : ok_BodyE o fr lo) (hmo : mo_BodyE o) {p0 : Nat} {H : Hp} {r : (Ot Int32) × Hp} {C Sl : Nat} (hF : F_Body_readHas N o p0 H = some r) (hC : r.2.sh.length ≤ H.sh.length + C) (hS : r.2.sl ≤ H.sl + Sl) : ab_M y_Body_readHas { frames := fr + 2, cells := C, slots := Sl, locals := lo + 50 } [.ref p0] (hpw H) (po (oI r.1) r.2) := by
  unfold F_Body_readHas at hF
  obtain ⟨c0, e0⟩ : ∃ q, q = H.sh.length := ⟨_, rfl⟩
  obtain ⟨s0, e1⟩ : ∃ q, q = H.sl := ⟨_, rfl⟩
  rw [← e0] at hC
  rw [← e1] at hS
  have hc0 : c0 ≤ H.sh.length := Nat.le_of_eq e0
  have hs0 : s0 ≤ H.sl := Nat.le_of_eq e1
  have hcc : H.sh.length ≤ c0 + C := by omega
  have hss : H.sl ≤ s0 + Sl := by omega
  refine ab_of2 (lv := [some (.ref p0), none]) 1 rfl rfl (Nat.le_of_ble_eq_true rfl) ?_
  refine ab_widen (cells' := H.sh.length - c0) (slots' := H.sl - s0) (Nat.zero_le _) (Nat.zero_le _) ?_
  refine ab_aload_n d_Body_readHas_0 rfl rfl rfl ?_
  obtain ⟨q1, hG⟩ := ck_s hF; clear hF
  obtain ⟨a2, e3, hF⟩ := rf_s hG; clear hG
  refine hp_getR (f := 0) d_Body_readHas_1 q1 (by decide) rfl (by decide) (k1 157 rfl rfl) rfl e3 ?_
  obtain ⟨q4, hG⟩ := ck_s hF; clear hF
  obtain ⟨v6, H7, z5, hF⟩ := bC_s hG; clear hG
  refine hp_callV_v (H1 := H7) (As := []) (rest := []) d_Body_readHas_4 (k_Lexer_advance z5) (ab_mkC s_Lexer_advance (show 0 + 1 ≤ fr + 2 from by have := ho.1; omega) (show 8 + (1 + 11) + 0 ≤ lo + 50 from by have := ho.2.1; omega) (show (H.sh.length - c0) + 0 ≤ C from by omega) (show (H.sl - s0) + 0 ≤ Sl from by omega)) (k5 129 rfl rfl) i_Lexer_advance v_Lexer_advance q4 (by decide) rfl rfl (Nat.le_of_ble_eq_true rfl) ?_
  have s_2 : Sa H H7 := (m_Lexer_advance z5)
  refine ab_widen (cells' := H.sh.length - c0) (slots' := H.sl - s0) (by show (H.sh.length - c0) + 0 ≤ _; omega) (by show (H.sl - s0) + 0 ≤ _; omega) ?_
  refine ab_aload_n d_Body_readHas_7 rfl rfl rfl ?_
  refine bT_c hF (fun x11 H10 z8 er => ?_) (fun v9 H10 z8 hG => ?_)
  · subst er
    refine ab_widen (cells' := H7.sh.length - c0) (slots' := H7.sl - s0) (by rw [(s_2).1]; exact Nat.le_refl _) (by rw [(s_2).2]; exact Nat.le_refl _) ?_
    have mz : Mo H7 H10 := (m_Body_openParens z8)
    have ml := mz.len
    have m2 := mz.2
    have be := congrArg List.length (s_2).1
    have bfx := (s_2).2
    have hC9 : H10.sh.length ≤ c0 + C := hC
    have hS9 : H10.sl ≤ s0 + Sl := hS
    refine hp_callV_t (x := x11) (H1 := H10) (As := []) (rest := []) d_Body_readHas_8 (k_Body_openParens z8 (C := H10.sh.length - H7.sh.length) (Sl := H10.sl - H7.sl) (by show H10.sh.length ≤ _; omega) (by show H10.sl ≤ _; omega)) (ab_mkC s_Body_openParens (show 8 + 1 ≤ fr + 2 from by have := ho.1; omega) (show 8 + (1 + 11) + 142 ≤ lo + 50 from by have := ho.2.1; omega) (show (H7.sh.length - c0) + (H10.sh.length - H7.sh.length) ≤ C from by omega) (show (H7.sl - s0) + (H10.sl - H7.sl) ≤ Sl from by omega)) (k5 161 rfl rfl) i_Body_openParens v_Body_openParens (by rw [(s_2).1]; exact q1) (by decide) rfl rfl (Nat.le_of_ble_eq_true rfl) ?_
    exact ab_U_out rfl (by show _ + (H10.sh.length - H7.sh.length) ≤ C; omega) (by show _ + (H10.sl - H7.sl) ≤ Sl; omega) ⟨rfl, rfl⟩
  clear hF
  refine ab_widen (cells' := H7.sh.length - c0) (slots' := H7.sl - s0) (by rw [(s_2).1]; exact Nat.le_refl _) (by rw [(s_2).2]; exact Nat.le_refl _) ?_
  have mz_3 : Mo H7 H10 := (m_Body_openParens z8)
  have b_4l := (mz_3).len
  have b_4s := (mz_3).2
  have b_4e := congrArg List.length (s_2).1
  have b_4f := (s_2).2
  have b_4c : c0 ≤ H10.sh.length := by omega
  have b_4d : s0 ≤ H10.sl := by omega
  have q_5 := (mz_3).get (by rw [(s_2).1]; exact q1)
  have q_6 := (mz_3).get (by rw [(s_2).1]; exact q4)
  have fH10 : Mo H10 r.2 := by
    have hm := Mo.rf H10
    refine bT_c hG (fun x15 H14 z12 er => ?_) (fun v13 H14 z12 hF => ?_)
    · subst er; exact hm.tr (m_Body_want hmo z12)
    clear hG
    replace hm : Mo H10 H14 := hm.tr (m_Body_want hmo z12)
    obtain ⟨a16, e17, hG⟩ := rf_s hF; clear hF
    obtain ⟨q18, hF⟩ := ck_s hG; clear hG
    refine bT_c hF (fun x22 H21 z19 er => ?_) (fun v20 H21 z19 hG => ?_)
    · subst er; exact hm.tr (m_Lexer_take z19)
    clear hF
    replace hm : Mo H10 H21 := hm.tr (m_Lexer_take z19)
    refine bT_c hG (fun x26 H25 z23 er => ?_) (fun v24 H25 z23 hF => ?_)
    · subst er; exact hm.tr (m_Body_numberHere z23)
    clear hG
    replace hm : Mo H10 H25 := hm.tr (m_Body_numberHere z23)
    refine bT_c hF (fun x30 H29 z27 er => ?_) (fun v28 H29 z27 hG => ?_)
    · subst er; exact hm.tr (m_Body_closeParens z27)
    clear hF
    replace hm : Mo H10 H29 := hm.tr (m_Body_closeParens z27)
    obtain ⟨a31, e32, hF⟩ := rf_s hG; clear hG
    obtain ⟨q33, hG⟩ := ck_s hF; clear hF
    obtain ⟨v35, H36, z34, hF⟩ := bC_s hG; clear hG
    replace hm : Mo H10 H36 := hm.tr ((m_Program_add z34)).mo
    obtain ⟨a37, e38, hG⟩ := rf_s hF; clear hF
    obtain ⟨q39, hF⟩ := ck_s hG; clear hG
    obtain ⟨v41, H42, z40, hG⟩ := bC_s hF; clear hF
    replace hm : Mo H10 H42 := hm.tr ((m_Program_add z40)).mo
    have hr := Option.some.inj hG; subst hr
    exact hm
  have b_4m := (fH10).len
  have b_4n := (fH10).2
  have b_4p : H10.sh.length ≤ c0 + C := by omega
  have b_4q : H10.sl ≤ s0 + Sl := by omega
  refine hp_callV_v (H1 := H10) (As := []) (rest := []) d_Body_readHas_8 (k_Body_openParens z8 (C := H10.sh.length - H7.sh.length) (Sl := H10.sl - H7.sl) (by show H10.sh.length ≤ _; omega) (by show H10.sl ≤ _; omega)) (ab_mkC s_Body_openParens (show 8 + 1 ≤ fr + 2 from by have := ho.1; omega) (show 8 + (1 + 11) + 142 ≤ lo + 50 from by have := ho.2.1; omega) (show (H7.sh.length - c0) + (H10.sh.length - H7.sh.length) ≤ C from by omega) (show (H7.sl - s0) + (H10.sl - H7.sl) ≤ Sl from by omega)) (k5 161 rfl rfl) i_Body_openParens v_Body_openParens (by rw [(s_2).1]; exact q1) (by decide) rfl rfl (Nat.le_of_ble_eq_true rfl) ?_
  refine ab_widen (cells' := H10.sh.length - c0) (slots' := H10.sl - s0) (by show _ + (H10.sh.length - H7.sh.length) ≤ _; omega) (by show _ + (H10.sl - H7.sl) ≤ _; omega) ?_
  clear b_4l b_4s b_4m b_4n b_4e b_4f
  refine ab_aload_n d_Body_readHas_11 rfl rfl rfl ?_
  refine ab_iconst (v := 4) d_Body_readHas_12 (by decide) ?_
  refine bT_c hG (fun x15 H14 z12 er => ?_) (fun v13 H14 z12 hF => ?_)
  · subst er
    have mz : Mo H10 H14 := (m_Body_want hmo z12)
    have ml := mz.len
    have m2 := mz.2
    have hC9 : H14.sh.length ≤ c0 + C := hC
    have hS9 : H14.sl ≤ s0 + Sl := hS
    refine hp_callV_t (x := x15) (H1 := H14) (As := [.int 4]) (rest := []) d_Body_readHas_13 (k_Body_want ho hmo z12 (C := H14.sh.length - H10.sh.length) (Sl := H14.sl - H10.sl) (by show H14.sh.length ≤ _; omega) (by show H14.sl ≤ _; omega)) (ab_mkC s_Body_want (show (fr + 1) + 1 ≤ fr + 2 from by have := ho.1; omega) (show 8 + (4 + 11) + (lo + 27) ≤ lo + 50 from by have := ho.2.1; omega) (show (H10.sh.length - c0) + (H14.sh.length - H10.sh.length) ≤ C from by omega) (show (H10.sl - s0) + (H14.sl - H10.sl) ≤ Sl from by omega)) (k5 137 rfl rfl) i_Body_want v_Body_want q_5 (by decide) rfl rfl (Nat.le_of_ble_eq_true rfl) ?_
    exact ab_U_out rfl (by show _ + (H14.sh.length - H10.sh.length) ≤ C; omega) (by show _ + (H14.sl - H10.sl) ≤ Sl; omega) ⟨rfl, rfl⟩
  clear hG
  have mz_22 : Mo H10 H14 := (m_Body_want hmo z12)
  have b_23l := (mz_22).len
  have b_23s := (mz_22).2
  have b_23c : c0 ≤ H14.sh.length := by omega
  have b_23d : s0 ≤ H14.sl := by omega
  have q_24 := (mz_22).get q_5
  have q_25 := (mz_22).get q_6
  obtain ⟨a16, e17, hG⟩ := rf_s hF; clear hF
  have fH14 : Mo H14 r.2 := by
    have hm := Mo.rf H14
    obtain ⟨q18, hF⟩ := ck_s hG; clear hG
    refine bT_c hF (fun x22 H21 z19 er => ?_) (fun v20 H21 z19 hG => ?_)
    · subst er; exact hm.tr (m_Lexer_take z19)
    clear hF
    replace hm : Mo H14 H21 := hm.tr (m_Lexer_take z19)
    refine bT_c hG (fun x26 H25 z23 er => ?_) (fun v24 H25 z23 hF => ?_)
    · subst er; exact hm.tr (m_Body_numberHere z23)
    clear hG
    replace hm : Mo H14 H25 := hm.tr (m_Body_numberHere z23)
    refine bT_c hF (fun x30 H29 z27 er => ?_) (fun v28 H29 z27 hG => ?_)
    · subst er; exact hm.tr (m_Body_closeParens z27)
    clear hF
    replace hm : Mo H14 H29 := hm.tr (m_Body_closeParens z27)
    obtain ⟨a31, e32, hF⟩ := rf_s hG; clear hG
    obtain ⟨q33, hG⟩ := ck_s hF; clear hF
    obtain ⟨v35, H36, z34, hF⟩ := bC_s hG; clear hG
    replace hm : Mo H14 H36 := hm.tr ((m_Program_add z34)).mo
    obtain ⟨a37, e38, hG⟩ := rf_s hF; clear hF
    obtain ⟨q39, hF⟩ := ck_s hG; clear hG
    obtain ⟨v41, H42, z40, hG⟩ := bC_s hF; clear hF
    replace hm : Mo H14 H42 := hm.tr ((m_Program_add z40)).mo
    have hr := Option.some.inj hG; subst hr
    exact hm
  have b_23m := (fH14).len
  have b_23n := (fH14).2
  have b_23p : H14.sh.length ≤ c0 + C := by omega
  have b_23q : H14.sl ≤ s0 + Sl := by omega
  refine hp_callV_a (v := .int v13) (H1 := H14) (As := [.int 4]) (rest := []) d_Body_readHas_13 (k_Body_want ho hmo z12 (C := H14.sh.length - H10.sh.length) (Sl := H14.sl - H10.sl) (by show H14.sh.length ≤ _; omega) (by show H14.sl ≤ _; omega)) (ab_mkC s_Body_want (show (fr + 1) + 1 ≤ fr + 2 from by have := ho.1; omega) (show 8 + (4 + 11) + (lo + 27) ≤ lo + 50 from by have := ho.2.1; omega) (show (H10.sh.length - c0) + (H14.sh.length - H10.sh.length) ≤ C from by omega) (show (H10.sl - s0) + (H14.sl - H10.sl) ≤ Sl from by omega)) (k5 137 rfl rfl) i_Body_want v_Body_want q_5 (by decide) rfl rfl (Nat.le_of_ble_eq_true rfl) ?_
  refine ab_widen (cells' := H14.sh.length - c0) (slots' := H14.sl - s0) (by show _ + (H14.sh.length - H10.sh.length) ≤ _; omega) (by show _ + (H14.sl - H10.sl) ≤ _; omega) ?_
  clear b_23l b_23s b_23m b_23n b_4c b_4d b_4p b_4q
  refine ab_pop d_Body_readHas_16 rfl ?_
  refine ab_aload_n d_Body_readHas_17 rfl rfl rfl ?_
  refine hp_getR (f := 0) d_Body_readHas_18 q_24 (by decide) rfl (by decide) (k1 157 rfl rfl) rfl e17 ?_
  refine ab_bipush (v := 14) d_Body_readHas_21 (by decide) ?_
  obtain ⟨q18, hF⟩ := ck_s hG; clear hG
  refine bT_c hF (fun x22 H21 z19 er => ?_) (fun v20 H21 z19 hG => ?_)
  · subst er
    have mz : Mo H14 H21 := (m_Lexer_take z19)
    have ml := mz.len
    have m2 := mz.2
    have hC9 : H21.sh.length ≤ c0 + C := hC
    have hS9 : H21.sl ≤ s0 + Sl := hS
    refine hp_callV_t (x := x22) (H1 := H21) (As := [.int 14]) (rest := []) d_Body_readHas_23 (k_Lexer_take z19 (C := H21.sh.length - H14.sh.length) (Sl := H21.sl - H14.sl) (by show H21.sh.length ≤ _; omega) (by show H21.sl ≤ _; omega)) (ab_mkC s_Lexer_take (show 7 + 1 ≤ fr + 2 from by have := ho.1; omega) (show 8 + (2 + 11) + 122 ≤ lo + 50 from by have := ho.2.1; omega) (show (H14.sh.length - c0) + (H21.sh.length - H14.sh.length) ≤ C from by omega) (show (H14.sl - s0) + (H21.sl - H14.sl) ≤ Sl from by omega)) (k5 116 rfl rfl) i_Lexer_take v_Lexer_take q18 (by decide) rfl rfl (Nat.le_of_ble_eq_true rfl) ?_
    exact ab_U_out rfl (by show _ + (H21.sh.length - H14.sh.length) ≤ C; omega) (by show _ + (H21.sl - H14.sl) ≤ Sl; omega) ⟨rfl, rfl⟩
  clear hF
  have mz_38 : Mo H14 H21 := (m_Lexer_take z19)
  have b_39l := (mz_38).len
  have b_39s := (mz_38).2
  have b_39c : c0 ≤ H21.sh.length := by omega
  have b_39d : s0 ≤ H21.sl := by omega
  have q_40 := (mz_38).get q_24
  have q_41 := (mz_38).get q_25
  have q_42 := (mz_38).get q18
  have fH21 : Mo H21 r.2 := by
    have hm := Mo.rf H21
    refine bT_c hG (fun x26 H25 z23 er => ?_) (fun v24 H25 z23 hF => ?_)
    · subst er; exact hm.tr (m_Body_numberHere z23)
    clear hG
    replace hm : Mo H21 H25 := hm.tr (m_Body_numberHere z23)
    refine bT_c hF (fun x30 H29 z27 er => ?_) (fun v28 H29 z27 hG => ?_)
    · subst er; exact hm.tr (m_Body_closeParens z27)
    clear hF
    replace hm : Mo H21 H29 := hm.tr (m_Body_closeParens z27)
    obtain ⟨a31, e32, hF⟩ := rf_s hG; clear hG
    obtain ⟨q33, hG⟩ := ck_s hF; clear hF
    obtain ⟨v35, H36, z34, hF⟩ := bC_s hG; clear hG
    replace hm : Mo H21 H36 := hm.tr ((m_Program_add z34)).mo
    obtain ⟨a37, e38, hG⟩ := rf_s hF; clear hF
    obtain ⟨q39, hF⟩ := ck_s hG; clear hG
    obtain ⟨v41, H42, z40, hG⟩ := bC_s hF; clear hF
    replace hm : Mo H21 H42 := hm.tr ((m_Program_add z40)).mo
    have hr := Option.some.inj hG; subst hr
    exact hm
  have b_39m := (fH21).len
  have b_39n := (fH21).2
  have b_39p : H21.sh.length ≤ c0 + C := by omega
  have b_39q : H21.sl ≤ s0 + Sl := by omega
  refine hp_callV_v (H1 := H21) (As := [.int 14]) (rest := []) d_Body_readHas_23 (k_Lexer_take z19 (C := H21.sh.length - H14.sh.length) (Sl := H21.sl - H14.sl) (by show H21.sh.length ≤ _; omega) (by show H21.sl ≤ _; omega)) (ab_mkC s_Lexer_take (show 7 + 1 ≤ fr + 2 from by have := ho.1; omega) (show 8 + (2 + 11) + 122 ≤ lo + 50 from by have := ho.2.1; omega) (show (H14.sh.length - c0) + (H21.sh.length - H14.sh.length) ≤ C from by omega) (show (H14.sl - s0) + (H21.sl - H14.sl) ≤ Sl from by omega)) (k5 116 rfl rfl) i_Lexer_take v_Lexer_take q18 (by decide) rfl rfl (Nat.le_of_ble_eq_true rfl) ?_
  refine ab_widen (cells' := H21.sh.length - c0) (slots' := H21.sl - s0) (by show _ + (H21.sh.length - H14.sh.length) ≤ _; omega) (by show _ + (H21.sl - H14.sl) ≤ _; omega) ?_
  clear b_39l b_39s b_39m b_39n b_23c b_23d b_23p b_23q
  refine ab_aload_n d_Body_readHas_26 rfl rfl rfl ?_
  refine ab_iconst (v := 0) d_Body_readHas_27 (by decide) ?_
  refine bT_c hG (fun x26 H25 z23 er => ?_) (fun v24 H25 z23 hF => ?_)
  · subst er
    have mz : Mo H21 H25 := (m_Body_numberHere z23)
    have ml := mz.len
    have m2 := mz.2
    have hC9 : H25.sh.length ≤ c0 + C := hC
    have hS9 : H25.sl ≤ s0 + Sl := hS
    refine hp_callV_t (x := x26) (H1 := H25) (As := [.int 0]) (rest := []) d_Body_readHas_28 (k_Body_numberHere z23 (C := H25.sh.length - H21.sh.length) (Sl := H25.sl - H21.sl) (by show H25.sh.length ≤ _; omega) (by show H25.sl ≤ _; omega)) (ab_mkC s_Body_numberHere (show 8 + 1 ≤ fr + 2 from by have := ho.1; omega) (show 8 + (4 + 11) + 150 ≤ lo + 50 from by have := ho.2.1; omega) (show (H21.sh.length - c0) + (H25.sh.length - H21.sh.length) ≤ C from by omega) (show (H21.sl - s0) + (H25.sl - H21.sl) ≤ Sl from by omega)) (k5 177 rfl rfl) i_Body_numberHere v_Body_numberHere q_40 (by decide) rfl rfl (Nat.le_of_ble_eq_true rfl) ?_
    exact ab_U_out rfl (by show _ + (H25.sh.length - H21.sh.length) ≤ C; omega) (by show _ + (H25.sl - H21.sl) ≤ Sl; omega) ⟨rfl, rfl⟩
  clear hG
  have mz_51 : Mo H21 H25 := (m_Body_numberHere z23)
  have b_52l := (mz_51).len
  have b_52s := (mz_51).2
  have b_52c : c0 ≤ H25.sh.length := by omega
  have b_52d : s0 ≤ H25.sl := by omega
  have q_53 := (mz_51).get q_40
  have q_54 := (mz_51).get q_41
  have q_55 := (mz_51).get q_42
  have fH25 : Mo H25 r.2 := by
    have hm := Mo.rf H25
    refine bT_c hF (fun x30 H29 z27 er => ?_) (fun v28 H29 z27 hG => ?_)
    · subst er; exact hm.tr (m_Body_closeParens z27)
    clear hF
    replace hm : Mo H25 H29 := hm.tr (m_Body_closeParens z27)
    obtain ⟨a31, e32, hF⟩ := rf_s hG; clear hG
    obtain ⟨q33, hG⟩ := ck_s hF; clear hF
    obtain ⟨v35, H36, z34, hF⟩ := bC_s hG; clear hG
    replace hm : Mo H25 H36 := hm.tr ((m_Program_add z34)).mo
    obtain ⟨a37, e38, hG⟩ := rf_s hF; clear hF
    obtain ⟨q39, hF⟩ := ck_s hG; clear hG
    obtain ⟨v41, H42, z40, hG⟩ := bC_s hF; clear hF
    replace hm : Mo H25 H42 := hm.tr ((m_Program_add z40)).mo
    have hr := Option.some.inj hG; subst hr
    exact hm
  have b_52m := (fH25).len
  have b_52n := (fH25).2
  have b_52p : H25.sh.length ≤ c0 + C := by omega
  have b_52q : H25.sl ≤ s0 + Sl := by omega
  refine hp_callV_a (v := .int v24) (H1 := H25) (As := [.int 0]) (rest := []) d_Body_readHas_28 (k_Body_numberHere z23 (C := H25.sh.length - H21.sh.length) (Sl := H25.sl - H21.sl) (by show H25.sh.length ≤ _; omega) (by show H25.sl ≤ _; omega)) (ab_mkC s_Body_numberHere (show 8 + 1 ≤ fr + 2 from by have := ho.1; omega) (show 8 + (4 + 11) + 150 ≤ lo + 50 from by have := ho.2.1; omega) (show (H21.sh.length - c0) + (H25.sh.length - H21.sh.length) ≤ C from by omega) (show (H21.sl - s0) + (H25.sl - H21.sl) ≤ Sl from by omega)) (k5 177 rfl rfl) i_Body_numberHere v_Body_numberHere q_40 (by decide) rfl rfl (Nat.le_of_ble_eq_true rfl) ?_
  refine ab_widen (cells' := H25.sh.length - c0) (slots' := H25.sl - s0) (by show _ + (H25.sh.length - H21.sh.length) ≤ _; omega) (by show _ + (H25.sl - H21.sl) ≤ _; omega) ?_
  clear b_52l b_52s b_52m b_52n b_39c b_39d b_39p b_39q
  refine ab_istore_n (lv' := [some (.ref p0), some (.int v24)]) d_Body_readHas_31 rfl (by decide) rfl ?_
  refine ab_aload_n d_Body_readHas_32 rfl rfl rfl ?_
  refine bT_c hF (fun x30 H29 z27 er => ?_) (fun v28 H29 z27 hG => ?_)
  · subst er
    have mz : Mo H25 H29 := (m_Body_closeParens z27)
    have ml := mz.len
    have m2 := mz.2
    have hC9 : H29.sh.length ≤ c0 + C := hC
    have hS9 : H29.sl ≤ s0 + Sl := hS
    refine hp_callV_t (x := x30) (H1 := H29) (As := []) (rest := []) d_Body_readHas_33 (k_Body_closeParens z27 (C := H29.sh.length - H25.sh.length) (Sl := H29.sl - H25.sl) (by show H29.sh.length ≤ _; omega) (by show H29.sl ≤ _; omega)) (ab_mkC s_Body_closeParens (show 8 + 1 ≤ fr + 2 from by have := ho.1; omega) (show 8 + (1 + 11) + 143 ≤ lo + 50 from by have := ho.2.1; omega) (show (H25.sh.length - c0) + (H29.sh.length - H25.sh.length) ≤ C from by omega) (show (H25.sl - s0) + (H29.sl - H25.sl) ≤ Sl from by omega)) (k5 165 rfl rfl) i_Body_closeParens v_Body_closeParens q_53 (by decide) rfl rfl (Nat.le_of_ble_eq_true rfl) ?_
    exact ab_U_out rfl (by show _ + (H29.sh.length - H25.sh.length) ≤ C; omega) (by show _ + (H29.sl - H25.sl) ≤ Sl; omega) ⟨rfl, rfl⟩
  clear hF
  have mz_60 : Mo H25 H29 := (m_Body_closeParens z27)
  have b_61l := (mz_60).len
  have b_61s := (mz_60).2
  have b_61c : c0 ≤ H29.sh.length := by omega
  have b_61d : s0 ≤ H29.sl := by omega
  have q_62 := (mz_60).get q_53
  have q_63 := (mz_60).get q_54
  have q_64 := (mz_60).get q_55
  obtain ⟨a31, e32, hF⟩ := rf_s hG; clear hG
  obtain ⟨q33, hG⟩ := ck_s hF; clear hF
  obtain ⟨v35, H36, z34, hF⟩ := bC_s hG; clear hG
  have jH36 : Mo H29 H36 := ((m_Program_add z34)).mo
  obtain ⟨a37, e38, hG⟩ := rf_s hF; clear hF
  obtain ⟨q39, hF⟩ := ck_s hG; clear hG
  obtain ⟨v41, H42, z40, hG⟩ := bC_s hF; clear hF
  have jH42 : Mo H36 H42 := ((m_Program_add z40)).mo
  have fH42 : Mo H42 r.2 := by
    have hm := Mo.rf H42
    have hr := Option.some.inj hG; subst hr
    exact hm
  have fH36 : Mo H36 r.2 := jH42.tr fH42
  have fH29 : Mo H29 r.2 := jH36.tr fH36
  have b_61m := (fH29).len
  have b_61n := (fH29).2
  have b_61p : H29.sh.length ≤ c0 + C := by omega
  have b_61q : H29.sl ≤ s0 + Sl := by omega
  refine hp_callV_v (H1 := H29) (As := []) (rest := []) d_Body_readHas_33 (k_Body_closeParens z27 (C := H29.sh.length - H25.sh.length) (Sl := H29.sl - H25.sl) (by show H29.sh.length ≤ _; omega) (by show H29.sl ≤ _; omega)) (ab_mkC s_Body_closeParens (show 8 + 1 ≤ fr + 2 from by have := ho.1; omega) (show 8 + (1 + 11) + 143 ≤ lo + 50 from by have := ho.2.1; omega) (show (H25.sh.length - c0) + (H29.sh.length - H25.sh.length) ≤ C from by omega) (show (H25.sl - s0) + (H29.sl - H25.sl) ≤ Sl from by omega)) (k5 165 rfl rfl) i_Body_closeParens v_Body_closeParens q_53 (by decide) rfl rfl (Nat.le_of_ble_eq_true rfl) ?_
  refine ab_widen (cells' := H29.sh.length - c0) (slots' := H29.sl - s0) (by show _ + (H29.sh.length - H25.sh.length) ≤ _; omega) (by show _ + (H29.sl - H25.sl) ≤ _; omega) ?_
  clear b_61l b_61s b_61m b_61n b_52c b_52d b_52p b_52q
  refine ab_aload_n d_Body_readHas_36 rfl rfl rfl ?_
  refine hp_getR (f := 1) d_Body_readHas_37 q_62 (by decide) rfl (by decide) (k1 158 rfl rfl) rfl e32 ?_
  refine ab_bipush (v := 42) d_Body_readHas_40 (by decide) ?_
  refine hp_callV_a (v := .int v35) (H1 := H36) (As := [.int 42]) (rest := []) d_Body_readHas_42 (k_Program_add z34) (ab_mkC s_Program_add (show 0 + 1 ≤ fr + 2 from by have := ho.1; omega) (show 8 + (2 + 11) + 0 ≤ lo + 50 from by have := ho.2.1; omega) (show (H29.sh.length - c0) + 0 ≤ C from by omega) (show (H29.sl - s0) + 0 ≤ Sl from by omega)) (k5 117 rfl rfl) i_Program_add v_Program_add q33 (by decide) rfl rfl (Nat.le_of_ble_eq_true rfl) ?_
  have s_68 : Sa H29 H36 := (m_Program_add z34)
  refine ab_widen (cells' := H29.sh.length - c0) (slots' := H29.sl - s0) (by show (H29.sh.length - c0) + 0 ≤ _; omega) (by show (H29.sl - s0) + 0 ≤ _; omega) ?_
  refine ab_pop d_Body_readHas_45 rfl ?_
  refine ab_aload_n d_Body_readHas_46 rfl rfl rfl ?_
  refine hp_getR (f := 1) d_Body_readHas_47 (by rw [(s_68).1]; exact q_62) (by decide) rfl (by decide) (k1 158 rfl rfl) rfl e38 ?_
  refine ab_iload_n d_Body_readHas_50 rfl rfl ?_
  rw [(s_68).1] at q39
  refine ab_widen (cells' := H36.sh.length - c0) (slots' := H36.sl - s0) (by rw [(s_68).1]; exact Nat.le_refl _) (by rw [(s_68).2]; exact Nat.le_refl _) ?_
  have b_69e := congrArg List.length (s_68).1
  have b_69f := (s_68).2
  refine hp_callV_a (v := .int v41) (H1 := H42) (As := [.int v24]) (rest := []) d_Body_readHas_51 (k_Program_add z40) (ab_mkC s_Program_add (show 0 + 1 ≤ fr + 2 from by have := ho.1; omega) (show 8 + (2 + 11) + 0 ≤ lo + 50 from by have := ho.2.1; omega) (show (H36.sh.length - c0) + 0 ≤ C from by omega) (show (H36.sl - s0) + 0 ≤ Sl from by omega)) (k5 117 rfl rfl) i_Program_add v_Program_add (by rw [(s_68).1]; exact q39) (by decide) rfl rfl (Nat.le_of_ble_eq_true rfl) ?_
  have s_70 : Sa H29 H42 := (s_68).tr (m_Program_add z40)
  refine ab_widen (cells' := H29.sh.length - c0) (slots' := H29.sl - s0) (by show (H36.sh.length - c0) + 0 ≤ _; omega) (by show (H36.sl - s0) + 0 ≤ _; omega) ?_
  clear b_69e b_69f
  refine ab_pop d_Body_readHas_54 rfl ?_
  refine ab_iconst (v := 3) d_Body_readHas_55 (by decide) ?_
  exact ab_iret d_Body_readHas_56 rfl (by show _ ≤ C; omega) (by show _ ≤ Sl; omega) (by have hr := Option.some.inj hG; subst hr; exact ⟨rfl, rfl⟩)
def y_Body_inParens : ab_Y := (⟨"WorldEngine$Body", "inParens", "(I)I"⟩, prog_2_method_33_code, 3, (some FieldType.int), [])
theorem d_Body_inParens_0 : decode y_Body_inParens.2.1 0 = .ok (.aload_n 0, 1) := by decide +kernel
theorem d_Body_inParens_1 : decode y_Body_inParens.2.1 1 = .ok (.invokevirtual 211, 3) := by decide +kernel
theorem d_Body_inParens_4 : decode y_Body_inParens.2.1 4 = .ok (.aload_n 0, 1) := by decide +kernel
theorem d_Body_inParens_5 : decode y_Body_inParens.2.1 5 = .ok (.iload_n 1, 1) := by decide +kernel
theorem d_Body_inParens_6 : decode y_Body_inParens.2.1 6 = .ok (.invokevirtual 111, 3) := by decide +kernel
theorem d_Body_inParens_9 : decode y_Body_inParens.2.1 9 = .ok (.istore_n 2, 1) := by decide +kernel
theorem d_Body_inParens_10 : decode y_Body_inParens.2.1 10 = .ok (.aload_n 0, 1) := by decide +kernel
theorem d_Body_inParens_11 : decode y_Body_inParens.2.1 11 = .ok (.invokevirtual 218, 3) := by decide +kernel
theorem d_Body_inParens_14 : decode y_Body_inParens.2.1 14 = .ok (.iload_n 2, 1) := by decide +kernel
theorem d_Body_inParens_15 : decode y_Body_inParens.2.1 15 = .ok (.ireturn, 1) := by decide +kernel
theorem s_Body_inParens : ab_Stat y_Body_inParens 1 := ⟨(k5 160 rfl rfl), (k1 8 rfl rfl), ⟨by decide, by decide⟩, by decide +kernel⟩
theorem i_Body_inParens : Cond.instanceMethod y_Body_inParens.1 ∈ ab_T := (k5 159 rfl rfl)
theorem v_Body_inParens : Cond.selects "WorldEngine$Body" y_Body_inParens.1 y_Body_inParens.1 ∈ ab_T := ab_s (List.mem_of_getElem? (i := 30) rfl) rfl
def F_Body_inParens (N : Nat) (o : Orc_BodyE) (p0 : Nat) (p1 : Int32) (H : Hp) : Option ((Ot Int32) × Hp) :=
    ck (H.sh[p0]? = some (6, 0)) <|
    bT (F_Body_openParens N p0 H) fun v3 H4 =>
    bT (F_Body_want N o p0 p1 H4) fun v7 H8 =>
    bT (F_Body_closeParens N p0 H8) fun v11 H12 =>
    some (.inl v7, H12)
set_option maxRecDepth 20000 in
set_option maxHeartbeats 2000000 in
theorem m_Body_inParens {N : Nat} {o : Orc_BodyE} (hmo : mo_BodyE o) {p0 : Nat} {p1 : Int32} {H : Hp} {r : (Ot Int32) × Hp} (hF : F_Body_inParens N o p0 p1 H = some r) : Mo H r.2 := by
  unfold F_Body_inParens at hF
  have hm := Mo.rf H
  obtain ⟨q14, hG⟩ := ck_s hF; clear hF
  refine bT_c hG (fun x18 H17 z15 er => ?_) (fun v16 H17 z15 hF => ?_)
  · subst er; exact hm.tr (m_Body_openParens z15)
  clear hG
  replace hm : Mo H H17 := hm.tr (m_Body_openParens z15)
  refine bT_c hF (fun x22 H21 z19 er => ?_) (fun v20 H21 z19 hG => ?_)
  · subst er; exact hm.tr (m_Body_want hmo z19)
  clear hF
  replace hm : Mo H H21 := hm.tr (m_Body_want hmo z19)
  refine bT_c hG (fun x26 H25 z23 er => ?_) (fun v24 H25 z23 hF => ?_)
  · subst er; exact hm.tr (m_Body_closeParens z23)
  clear hG
  replace hm : Mo H H25 := hm.tr (m_Body_closeParens z23)
  have hr := Option.some.inj hF; subst hr
  exact hm
set_option maxRecDepth 20000 in
set_option maxHeartbeats 2000000 in
theorem k_Body_inParens {N : Nat} {o : Orc_BodyE} {fr lo : Nat} (ho : ok_BodyE o fr lo) (hmo : mo_BodyE o) {p0 : Nat} {p1 : Int32} {H : Hp} {r : (Ot Int32) × Hp} {C Sl : Nat} (hF : F_Body_inParens N o p0 p1 H = some r) (hC : r.2.sh.length ≤ H.sh.length + C) (hS : r.2.sl ≤ H.sl + Sl) : ab_M y_Body_inParens { frames := fr + 2, cells := C, slots := Sl, locals := lo + 50 } [.ref p0, .int p1] (hpw H) (po (oI r.1) r.2) := by
  unfold F_Body_inParens at hF
  obtain ⟨c0, e0⟩ : ∃ q, q = H.sh.length := ⟨_, rfl⟩
  obtain ⟨s0, e1⟩ : ∃ q, q = H.sl := ⟨_, rfl⟩
  rw [← e0] at hC
  rw [← e1] at hS
  have hc0 : c0 ≤ H.sh.length := Nat.le_of_eq e0
  have hs0 : s0 ≤ H.sl := Nat.le_of_eq e1
  have hcc : H.sh.length ≤ c0 + C := by omega
  have hss : H.sl ≤ s0 + Sl := by omega
  refine ab_of2 (lv := [some (.ref p0), some (.int p1), none]) 1 rfl rfl (Nat.le_of_ble_eq_true rfl) ?_
  refine ab_widen (cells' := H.sh.length - c0) (slots' := H.sl - s0) (Nat.zero_le _) (Nat.zero_le _) ?_
  refine ab_aload_n d_Body_inParens_0 rfl rfl rfl ?_
  obtain ⟨q1, hG⟩ := ck_s hF; clear hF
  refine bT_c hG (fun x5 H4 z2 er => ?_) (fun v3 H4 z2 hF => ?_)
  · subst er
    have mz : Mo H H4 := (m_Body_openParens z2)
    have ml := mz.len
    have m2 := mz.2
    have hC9 : H4.sh.length ≤ c0 + C := hC
    have hS9 : H4.sl ≤ s0 + Sl := hS
    refine hp_callV_t (x := x5) (H1 := H4) (As := []) (rest := []) d_Body_inParens_1 (k_Body_openParens z2 (C := H4.sh.length - H.sh.length) (Sl := H4.sl - H.sl) (by show H4.sh.length ≤ _; omega) (by show H4.sl ≤ _; omega)) (ab_mkC s_Body_openParens (show 8 + 1 ≤ fr + 2 from by have := ho.1; omega) (show 8 + (1 + 11) + 142 ≤ lo + 50 from by have := ho.2.1; omega) (show (H.sh.length - c0) + (H4.sh.length - H.sh.length) ≤ C from by omega) (show (H.sl - s0) + (H4.sl - H.sl) ≤ Sl from by omega)) (k5 161 rfl rfl) i_Body_openParens v_Body_openParens q1 (by decide) rfl rfl (Nat.le_of_ble_eq_true rfl) ?_
    exact ab_U_out rfl (by show _ + (H4.sh.length - H.sh.length) ≤ C; omega) (by show _ + (H4.sl - H.sl) ≤ Sl; omega) ⟨rfl, rfl⟩
  clear hG
  have mz_1 : Mo H H4 := (m_Body_openParens z2)
  have b_2l := (mz_1).len
  have b_2s := (mz_1).2
  have b_2c : c0 ≤ H4.sh.length := by omega
  have b_2d : s0 ≤ H4.sl := by omega
  have q_3 := (mz_1).get q1
  have fH4 : Mo H4 r.2 := by
    have hm := Mo.rf H4
    refine bT_c hF (fun x9 H8 z6 er => ?_) (fun v7 H8 z6 hG => ?_)
    · subst er; exact hm.tr (m_Body_want hmo z6)
    clear hF
    replace hm : Mo H4 H8 := hm.tr (m_Body_want hmo z6)
    refine bT_c hG (fun x13 H12 z10 er => ?_) (fun v11 H12 z10 hF => ?_)
    · subst er; exact hm.tr (m_Body_closeParens z10)
    clear hG
    replace hm : Mo H4 H12 := hm.tr (m_Body_closeParens z10)
    have hr := Option.some.inj hF; subst hr
    exact hm
  have b_2m := (fH4).len
  have b_2n := (fH4).2
  have b_2p : H4.sh.length ≤ c0 + C := by omega
  have b_2q : H4.sl ≤ s0 + Sl := by omega
  refine hp_callV_v (H1 := H4) (As := []) (rest := []) d_Body_inParens_1 (k_Body_openParens z2 (C := H4.sh.length - H.sh.length) (Sl := H4.sl - H.sl) (by show H4.sh.length ≤ _; omega) (by show H4.sl ≤ _; omega)) (ab_mkC s_Body_openParens (show 8 + 1 ≤ fr + 2 from by have := ho.1; omega) (show 8 + (1 + 11) + 142 ≤ lo + 50 from by have := ho.2.1; omega) (show (H.sh.length - c0) + (H4.sh.length - H.sh.length) ≤ C from by omega) (show (H.sl - s0) + (H4.sl - H.sl) ≤ Sl from by omega)) (k5 161 rfl rfl) i_Body_openParens v_Body_openParens q1 (by decide) rfl rfl (Nat.le_of_ble_eq_true rfl) ?_
  refine ab_widen (cells' := H4.sh.length - c0) (slots' := H4.sl - s0) (by show _ + (H4.sh.length - H.sh.length) ≤ _; omega) (by show _ + (H4.sl - H.sl) ≤ _; omega) ?_
  clear b_2l b_2s b_2m b_2n
  refine ab_aload_n d_Body_inParens_4 rfl rfl rfl ?_
  refine ab_iload_n d_Body_inParens_5 rfl rfl ?_
  refine bT_c hF (fun x9 H8 z6 er => ?_) (fun v7 H8 z6 hG => ?_)
  · subst er
    have mz : Mo H4 H8 := (m_Body_want hmo z6)
    have ml := mz.len
    have m2 := mz.2
    have hC9 : H8.sh.length ≤ c0 + C := hC
    have hS9 : H8.sl ≤ s0 + Sl := hS
    refine hp_callV_t (x := x9) (H1 := H8) (As := [.int p1]) (rest := []) d_Body_inParens_6 (k_Body_want ho hmo z6 (C := H8.sh.length - H4.sh.length) (Sl := H8.sl - H4.sl) (by show H8.sh.length ≤ _; omega) (by show H8.sl ≤ _; omega)) (ab_mkC s_Body_want (show (fr + 1) + 1 ≤ fr + 2 from by have := ho.1; omega) (show 8 + (4 + 11) + (lo + 27) ≤ lo + 50 from by have := ho.2.1; omega) (show (H4.sh.length - c0) + (H8.sh.length - H4.sh.length) ≤ C from by omega) (show (H4.sl - s0) + (H8.sl - H4.sl) ≤ Sl from by omega)) (k5 137 rfl rfl) i_Body_want v_Body_want q_3 (by decide) rfl rfl (Nat.le_of_ble_eq_true rfl) ?_
    exact ab_U_out rfl (by show _ + (H8.sh.length - H4.sh.length) ≤ C; omega) (by show _ + (H8.sl - H4.sl) ≤ Sl; omega) ⟨rfl, rfl⟩
  clear hF
  have mz_8 : Mo H4 H8 := (m_Body_want hmo z6)
  have b_9l := (mz_8).len
  have b_9s := (mz_8).2
  have b_9c : c0 ≤ H8.sh.length := by omega
  have b_9d : s0 ≤ H8.sl := by omega
  have q_10 := (mz_8).get q_3
  have fH8 : Mo H8 r.2 := by
    have hm := Mo.rf H8
    refine bT_c hG (fun x13 H12 z10 er => ?_) (fun v11 H12 z10 hF => ?_)
    · subst er; exact hm.tr (m_Body_closeParens z10)
    clear hG
    replace hm : Mo H8 H12 := hm.tr (m_Body_closeParens z10)
    have hr := Option.some.inj hF; subst hr
    exact hm
  have b_9m := (fH8).len
  have b_9n := (fH8).2
  have b_9p : H8.sh.length ≤ c0 + C := by omega
  have b_9q : H8.sl ≤ s0 + Sl := by omega
  refine hp_callV_a (v := .int v7) (H1 := H8) (As := [.int p1]) (rest := []) d_Body_inParens_6 (k_Body_want ho hmo z6 (C := H8.sh.length - H4.sh.length) (Sl := H8.sl - H4.sl) (by show H8.sh.length ≤ _; omega) (by show H8.sl ≤ _; omega)) (ab_mkC s_Body_want (show (fr + 1) + 1 ≤ fr + 2 from by have := ho.1; omega) (show 8 + (4 + 11) + (lo + 27) ≤ lo + 50 from by have := ho.2.1; omega) (show (H4.sh.length - c0) + (H8.sh.length - H4.sh.length) ≤ C from by omega) (show (H4.sl - s0) + (H8.sl - H4.sl) ≤ Sl from by omega)) (k5 137 rfl rfl) i_Body_want v_Body_want q_3 (by decide) rfl rfl (Nat.le_of_ble_eq_true rfl) ?_
  refine ab_widen (cells' := H8.sh.length - c0) (slots' := H8.sl - s0) (by show _ + (H8.sh.length - H4.sh.length) ≤ _; omega) (by show _ + (H8.sl - H4.sl) ≤ _; omega) ?_
  clear b_9l b_9s b_9m b_9n b_2c b_2d b_2p b_2q
  refine ab_istore_n (lv' := [some (.ref p0), some (.int p1), some (.int v7)]) d_Body_inParens_9 rfl (by decide) rfl ?_
  refine ab_aload_n d_Body_inParens_10 rfl rfl rfl ?_
  refine bT_c hG (fun x13 H12 z10 er => ?_) (fun v11 H12 z10 hF => ?_)
  · subst er
    have mz : Mo H8 H12 := (m_Body_closeParens z10)
    have ml := mz.len
    have m2 := mz.2
    have hC9 : H12.sh.length ≤ c0 + C := hC
    have hS9 : H12.sl ≤ s0 + Sl := hS
    refine hp_callV_t (x := x13) (H1 := H12) (As := []) (rest := []) d_Body_inParens_11 (k_Body_closeParens z10 (C := H12.sh.length - H8.sh.length) (Sl := H12.sl - H8.sl) (by show H12.sh.length ≤ _; omega) (by show H12.sl ≤ _; omega)) (ab_mkC s_Body_closeParens (show 8 + 1 ≤ fr + 2 from by have := ho.1; omega) (show 8 + (1 + 11) + 143 ≤ lo + 50 from by have := ho.2.1; omega) (show (H8.sh.length - c0) + (H12.sh.length - H8.sh.length) ≤ C from by omega) (show (H8.sl - s0) + (H12.sl - H8.sl) ≤ Sl from by omega)) (k5 165 rfl rfl) i_Body_closeParens v_Body_closeParens q_10 (by decide) rfl rfl (Nat.le_of_ble_eq_true rfl) ?_
    exact ab_U_out rfl (by show _ + (H12.sh.length - H8.sh.length) ≤ C; omega) (by show _ + (H12.sl - H8.sl) ≤ Sl; omega) ⟨rfl, rfl⟩
  clear hG
  have mz_13 : Mo H8 H12 := (m_Body_closeParens z10)
  have b_14l := (mz_13).len
  have b_14s := (mz_13).2
  have b_14c : c0 ≤ H12.sh.length := by omega
  have b_14d : s0 ≤ H12.sl := by omega
  have q_15 := (mz_13).get q_10
  have fH12 : Mo H12 r.2 := by
    have hm := Mo.rf H12
    have hr := Option.some.inj hF; subst hr
    exact hm
  have b_14m := (fH12).len
  have b_14n := (fH12).2
  have b_14p : H12.sh.length ≤ c0 + C := by omega
  have b_14q : H12.sl ≤ s0 + Sl := by omega
  refine hp_callV_v (H1 := H12) (As := []) (rest := []) d_Body_inParens_11 (k_Body_closeParens z10 (C := H12.sh.length - H8.sh.length) (Sl := H12.sl - H8.sl) (by show H12.sh.length ≤ _; omega) (by show H12.sl ≤ _; omega)) (ab_mkC s_Body_closeParens (show 8 + 1 ≤ fr + 2 from by have := ho.1; omega) (show 8 + (1 + 11) + 143 ≤ lo + 50 from by have := ho.2.1; omega) (show (H8.sh.length - c0) + (H12.sh.length - H8.sh.length) ≤ C from by omega) (show (H8.sl - s0) + (H12.sl - H8.sl) ≤ Sl from by omega)) (k5 165 rfl rfl) i_Body_closeParens v_Body_closeParens q_10 (by decide) rfl rfl (Nat.le_of_ble_eq_true rfl) ?_
  refine ab_widen (cells' := H12.sh.length - c0) (slots' := H12.sl - s0) (by show _ + (H12.sh.length - H8.sh.length) ≤ _; omega) (by show _ + (H12.sl - H8.sl) ≤ _; omega) ?_
  clear b_14l b_14s b_14m b_14n b_9c b_9d b_9p b_9q
  refine ab_iload_n d_Body_inParens_14 rfl rfl ?_
  exact ab_iret d_Body_inParens_15 rfl (by show _ ≤ C; omega) (by show _ ≤ Sl; omega) (by have hr := Option.some.inj hF; subst hr; exact ⟨rfl, rfl⟩)
def y_Body_called : ab_Y := (⟨"WorldEngine$Body", "called", "(III)I"⟩, prog_2_method_40_code, 4, (some FieldType.int), [])
theorem d_Body_called_0 : decode y_Body_called.2.1 0 = .ok (.aload_n 0, 1) := by decide +kernel
theorem d_Body_called_1 : decode y_Body_called.2.1 1 = .ok (.getfield 7, 3) := by decide +kernel
theorem d_Body_called_4 : decode y_Body_called.2.1 4 = .ok (.invokevirtual 93, 3) := by decide +kernel
theorem d_Body_called_7 : decode y_Body_called.2.1 7 = .ok (.aload_n 0, 1) := by decide +kernel
theorem d_Body_called_8 : decode y_Body_called.2.1 8 = .ok (.iload_n 1, 1) := by decide +kernel
theorem d_Body_called_9 : decode y_Body_called.2.1 9 = .ok (.invokevirtual 141, 3) := by decide +kernel
theorem d_Body_called_12 : decode y_Body_called.2.1 12 = .ok (.pop, 1) := by decide +kernel
theorem d_Body_called_13 : decode y_Body_called.2.1 13 = .ok (.aload_n 0, 1) := by decide +kernel
theorem d_Body_called_14 : decode y_Body_called.2.1 14 = .ok (.getfield 17, 3) := by decide +kernel
theorem d_Body_called_17 : decode y_Body_called.2.1 17 = .ok (.iload_n 2, 1) := by decide +kernel
theorem d_Body_called_18 : decode y_Body_called.2.1 18 = .ok (.invokevirtual 50, 3) := by decide +kernel
theorem d_Body_called_21 : decode y_Body_called.2.1 21 = .ok (.pop, 1) := by decide +kernel
theorem d_Body_called_22 : decode y_Body_called.2.1 22 = .ok (.iload_n 3, 1) := by decide +kernel
theorem d_Body_called_23 : decode y_Body_called.2.1 23 = .ok (.ireturn, 1) := by decide +kernel
theorem s_Body_called : ab_Stat y_Body_called 3 := ⟨(k5 172 rfl rfl), (k1 8 rfl rfl), ⟨by decide, by decide⟩, by decide +kernel⟩
theorem i_Body_called : Cond.instanceMethod y_Body_called.1 ∈ ab_T := (k5 171 rfl rfl)
theorem v_Body_called : Cond.selects "WorldEngine$Body" y_Body_called.1 y_Body_called.1 ∈ ab_T := ab_s (List.mem_of_getElem? (i := 33) rfl) rfl
def F_Body_called (N : Nat) (o : Orc_BodyE) (p0 : Nat) (p1 : Int32) (p2 : Int32) (p3 : Int32) (H : Hp) : Option ((Ot Int32) × Hp) :=
    ck (H.sh[p0]? = some (6, 0)) <|
    rf (H.P p0 0) fun a2 =>
    ck (H.sh[a2]? = some (1, 0)) <|
    bC (F_Lexer_advance N a2 H) fun v6 H7 =>
    bT (F_Body_inParens N o p0 p1 H7) fun v9 H10 =>
    rf (H10.P p0 1) fun a12 =>
    ck (H10.sh[a12]? = some (4, 0)) <|
    bC (F_Program_add N a12 p2 H10) fun v16 H17 =>
    some (.inl p3, H17)
set_option maxRecDepth 20000 in
set_option maxHeartbeats 2000000 in
theorem m_Body_called {N : Nat} {o : Orc_BodyE} (hmo : mo_BodyE o) {p0 : Nat} {p1 : Int32} {p2 : Int32} {p3 : Int32} {H : Hp} {r : (Ot Int32) × Hp} (hF : F_Body_called N o p0 p1 p2 p3 H = some r) : Mo H r.2 := by
  unfold F_Body_called at hF
  have hm := Mo.rf H
  obtain ⟨q18, hG⟩ := ck_s hF; clear hF
  obtain ⟨a19, e20, hF⟩ := rf_s hG; clear hG
  obtain ⟨q21, hG⟩ := ck_s hF; clear hF
  obtain ⟨v23, H24, z22, hF⟩ := bC_s hG; clear hG
  replace hm : Mo H H24 := hm.tr ((m_Lexer_advance z22)).mo
  refine bT_c hF (fun x28 H27 z25 er => ?_) (fun v26 H27 z25 hG => ?_)
  · subst er; exact hm.tr (m_Body_inParens hmo z25)
  clear hF
  replace hm : Mo H H27 := hm.tr (m_Body_inParens hmo z25)
  obtain ⟨a29, e30, hF⟩ := rf_s hG; clear hG
  obtain ⟨q31, hG⟩ := ck_s hF; clear hF
  obtain ⟨v33, H34, z32, hF⟩ := bC_s hG; clear hG
  replace hm : Mo H H34 := hm.tr ((m_Program_add z32)).mo
  have hr := Option.some.inj hF; subst hr
  exact hm
set_option maxRecDepth 20000 in
set_option maxHeartbeats 2000000 in
theorem k_Body_called {N : Nat} {o : Orc_BodyE} {fr lo : Nat} (ho : ok_BodyE o fr lo) (hmo : mo_BodyE o) {p0 : Nat} {p1 : Int32} {p2 : Int32} {p3 : Int32} {H : Hp} {r : (Ot Int32) × Hp} {C Sl : Nat} (hF : F_Body_called N o p0 p1 p2 p3 H = some r) (hC : r.2.sh.length ≤ H.sh.length + C) (hS : r.2.sl ≤ H.sl + Sl) : ab_M y_Body_called { frames := fr + 3, cells := C, slots := Sl, locals := lo + 72 } [.ref p0, .int p1, .int p2, .int p3] (hpw H) (po (oI r.1) r.2) := by
  unfold F_Body_called at hF
  obtain ⟨c0, e0⟩ : ∃ q, q = H.sh.length := ⟨_, rfl⟩
  obtain ⟨s0, e1⟩ : ∃ q, q = H.sl := ⟨_, rfl⟩
  rw [← e0] at hC
  rw [← e1] at hS
  have hc0 : c0 ≤ H.sh.length := Nat.le_of_eq e0
  have hs0 : s0 ≤ H.sl := Nat.le_of_eq e1
  have hcc : H.sh.length ≤ c0 + C := by omega
  have hss : H.sl ≤ s0 + Sl := by omega
  refine ab_of2 (lv := [some (.ref p0), some (.int p1), some (.int p2), some (.int p3)]) 0 rfl rfl (Nat.le_of_ble_eq_true rfl) ?_
  refine ab_widen (cells' := H.sh.length - c0) (slots' := H.sl - s0) (Nat.zero_le _) (Nat.zero_le _) ?_
  refine ab_aload_n d_Body_called_0 rfl rfl rfl ?_
  obtain ⟨q1, hG⟩ := ck_s hF; clear hF
  obtain ⟨a2, e3, hF⟩ := rf_s hG; clear hG
  refine hp_getR (f := 0) d_Body_called_1 q1 (by decide) rfl (by decide) (k1 157 rfl rfl) rfl e3 ?_
  obtain ⟨q4, hG⟩ := ck_s hF; clear hF
  obtain ⟨v6, H7, z5, hF⟩ := bC_s hG; clear hG
  refine hp_callV_v (H1 := H7) (As := []) (rest := []) d_Body_called_4 (k_Lexer_advance z5) (ab_mkC s_Lexer_advance (show 0 + 1 ≤ fr + 3 from by have := ho.1; omega) (show 8 + (1 + 11) + 0 ≤ lo + 72 from by have := ho.2.1; omega) (show (H.sh.length - c0) + 0 ≤ C from by omega) (show (H.sl - s0) + 0 ≤ Sl from by omega)) (k5 129 rfl rfl) i_Lexer_advance v_Lexer_advance q4 (by decide) rfl rfl (Nat.le_of_ble_eq_true rfl) ?_
  have s_2 : Sa H H7 := (m_Lexer_advance z5)
  refine ab_widen (cells' := H.sh.length - c0) (slots' := H.sl - s0) (by show (H.sh.length - c0) + 0 ≤ _; omega) (by show (H.sl - s0) + 0 ≤ _; omega) ?_
  refine ab_aload_n d_Body_called_7 rfl rfl rfl ?_
  refine ab_iload_n d_Body_called_8 rfl rfl ?_
  refine bT_c hF (fun x11 H10 z8 er => ?_) (fun v9 H10 z8 hG => ?_)
  · subst er
    refine ab_widen (cells' := H7.sh.length - c0) (slots' := H7.sl - s0) (by rw [(s_2).1]; exact Nat.le_refl _) (by rw [(s_2).2]; exact Nat.le_refl _) ?_
    have mz : Mo H7 H10 := (m_Body_inParens hmo z8)
    have ml := mz.len
    have m2 := mz.2
    have be := congrArg List.length (s_2).1
    have bfx := (s_2).2
    have hC9 : H10.sh.length ≤ c0 + C := hC
    have hS9 : H10.sl ≤ s0 + Sl := hS
    refine hp_callV_t (x := x11) (H1 := H10) (As := [.int p1]) (rest := []) d_Body_called_9 (k_Body_inParens ho hmo z8 (C := H10.sh.length - H7.sh.length) (Sl := H10.sl - H7.sl) (by show H10.sh.length ≤ _; omega) (by show H10.sl ≤ _; omega)) (ab_mkC s_Body_inParens (show (fr + 2) + 1 ≤ fr + 3 from by have := ho.1; omega) (show 8 + (3 + 11) + (lo + 50) ≤ lo + 72 from by have := ho.2.1; omega) (show (H7.sh.length - c0) + (H10.sh.length - H7.sh.length) ≤ C from by omega) (show (H7.sl - s0) + (H10.sl - H7.sl) ≤ Sl from by omega)) (k5 157 rfl rfl) i_Body_inParens v_Body_inParens (by rw [(s_2).1]; exact q1) (by decide) rfl rfl (Nat.le_of_ble_eq_true rfl) ?_
    exact ab_U_out rfl (by show _ + (H10.sh.length - H7.sh.length) ≤ C; omega) (by show _ + (H10.sl - H7.sl) ≤ Sl; omega) ⟨rfl, rfl⟩
  clear hF
  refine ab_widen (cells' := H7.sh.length - c0) (slots' := H7.sl - s0) (by rw [(s_2).1]; exact Nat.le_refl _) (by rw [(s_2).2]; exact Nat.le_refl _) ?_
  have mz_3 : Mo H7 H10 := (m_Body_inParens hmo z8)
  have b_4l := (mz_3).len
  have b_4s := (mz_3).2
  have b_4e := congrArg List.length (s_2).1
  have b_4f := (s_2).2
  have b_4c : c0 ≤ H10.sh.length := by omega
  have b_4d : s0 ≤ H10.sl := by omega
  have q_5 := (mz_3).get (by rw [(s_2).1]; exact q1)
  have q_6 := (mz_3).get (by rw [(s_2).1]; exact q4)
  obtain ⟨a12, e13, hF⟩ := rf_s hG; clear hG
  obtain ⟨q14, hG⟩ := ck_s hF; clear hF
  obtain ⟨v16, H17, z15, hF⟩ := bC_s hG; clear hG
  have jH17 : Mo H10 H17 := ((m_Program_add z15)).mo
  have fH17 : Mo H17 r.2 := by
    have hm := Mo.rf H17
    have hr := Option.some.inj hF; subst hr
    exact hm
  have fH10 : Mo H10 r.2 := jH17.tr fH17
  have b_4m := (fH10).len
  have b_4n := (fH10).2
  have b_4p : H10.sh.length ≤ c0 + C := by omega
  have b_4q : H10.sl ≤ s0 + Sl := by omega
  refine hp_callV_a (v := .int v9) (H1 := H10) (As := [.int p1]) (rest := []) d_Body_called_9 (k_Body_inParens ho hmo z8 (C := H10.sh.length - H7.sh.length) (Sl := H10.sl - H7.sl) (by show H10.sh.length ≤ _; omega) (by show H10.sl ≤ _; omega)) (ab_mkC s_Body_inParens (show (fr + 2) + 1 ≤ fr + 3 from by have := ho.1; omega) (show 8 + (3 + 11) + (lo + 50) ≤ lo + 72 from by have := ho.2.1; omega) (show (H7.sh.length - c0) + (H10.sh.length - H7.sh.length) ≤ C from by omega) (show (H7.sl - s0) + (H10.sl - H7.sl) ≤ Sl from by omega)) (k5 157 rfl rfl) i_Body_inParens v_Body_inParens (by rw [(s_2).1]; exact q1) (by decide) rfl rfl (Nat.le_of_ble_eq_true rfl) ?_
  refine ab_widen (cells' := H10.sh.length - c0) (slots' := H10.sl - s0) (by show _ + (H10.sh.length - H7.sh.length) ≤ _; omega) (by show _ + (H10.sl - H7.sl) ≤ _; omega) ?_
  clear b_4l b_4s b_4m b_4n b_4e b_4f
  refine ab_pop d_Body_called_12 rfl ?_
  refine ab_aload_n d_Body_called_13 rfl rfl rfl ?_
  refine hp_getR (f := 1) d_Body_called_14 q_5 (by decide) rfl (by decide) (k1 158 rfl rfl) rfl e13 ?_
  refine ab_iload_n d_Body_called_17 rfl rfl ?_
  refine hp_callV_a (v := .int v16) (H1 := H17) (As := [.int p2]) (rest := []) d_Body_called_18 (k_Program_add z15) (ab_mkC s_Program_add (show 0 + 1 ≤ fr + 3 from by have := ho.1; omega) (show 8 + (2 + 11) + 0 ≤ lo + 72 from by have := ho.2.1; omega) (show (H10.sh.length - c0) + 0 ≤ C from by omega) (show (H10.sl - s0) + 0 ≤ Sl from by omega)) (k5 117 rfl rfl) i_Program_add v_Program_add q14 (by decide) rfl rfl (Nat.le_of_ble_eq_true rfl) ?_
  have s_9 : Sa H10 H17 := (m_Program_add z15)
  refine ab_widen (cells' := H10.sh.length - c0) (slots' := H10.sl - s0) (by show (H10.sh.length - c0) + 0 ≤ _; omega) (by show (H10.sl - s0) + 0 ≤ _; omega) ?_
  refine ab_pop d_Body_called_21 rfl ?_
  refine ab_iload_n d_Body_called_22 rfl rfl ?_
  exact ab_iret d_Body_called_23 rfl (by show _ ≤ C; omega) (by show _ ≤ Sl; omega) (by have hr := Option.some.inj hF; subst hr; exact ⟨rfl, rfl⟩)
def y_Body_signed : ab_Y := (⟨"WorldEngine$Body", "signed", "(I)I"⟩, prog_2_method_39_code, 6, (some FieldType.int), [])
theorem d_Body_signed_0 : decode y_Body_signed.2.1 0 = .ok (.aload_n 0, 1) := by decide +kernel
theorem d_Body_signed_1 : decode y_Body_signed.2.1 1 = .ok (.getfield 7, 3) := by decide +kernel
theorem d_Body_signed_4 : decode y_Body_signed.2.1 4 = .ok (.getfield 96, 3) := by decide +kernel
theorem d_Body_signed_7 : decode y_Body_signed.2.1 7 = .ok (.istore_n 2, 1) := by decide +kernel
theorem d_Body_signed_8 : decode y_Body_signed.2.1 8 = .ok (.aload_n 0, 1) := by decide +kernel
theorem d_Body_signed_9 : decode y_Body_signed.2.1 9 = .ok (.invokevirtual 103, 3) := by decide +kernel
theorem d_Body_signed_12 : decode y_Body_signed.2.1 12 = .ok (.aload_n 0, 1) := by decide +kernel
theorem d_Body_signed_13 : decode y_Body_signed.2.1 13 = .ok (.getfield 7, 3) := by decide +kernel
theorem d_Body_signed_16 : decode y_Body_signed.2.1 16 = .ok (.invokevirtual 93, 3) := by decide +kernel
theorem d_Body_signed_19 : decode y_Body_signed.2.1 19 = .ok (.aload_n 0, 1) := by decide +kernel
theorem d_Body_signed_20 : decode y_Body_signed.2.1 20 = .ok (.invokevirtual 233, 3) := by decide +kernel
theorem d_Body_signed_23 : decode y_Body_signed.2.1 23 = .ok (.istore_n 3, 1) := by decide +kernel
theorem d_Body_signed_24 : decode y_Body_signed.2.1 24 = .ok (.aload_n 0, 1) := by decide +kernel
theorem d_Body_signed_25 : decode y_Body_signed.2.1 25 = .ok (.dup, 1) := by decide +kernel
theorem d_Body_signed_26 : decode y_Body_signed.2.1 26 = .ok (.getfield 36, 3) := by decide +kernel
theorem d_Body_signed_29 : decode y_Body_signed.2.1 29 = .ok (.iconst 1, 1) := by decide +kernel
theorem d_Body_signed_30 : decode y_Body_signed.2.1 30 = .ok (.isub, 1) := by decide +kernel
theorem d_Body_signed_31 : decode y_Body_signed.2.1 31 = .ok (.putfield 36, 3) := by decide +kernel
theorem d_Body_signed_34 : decode y_Body_signed.2.1 34 = .ok (.iload_n 1, 1) := by decide +kernel
theorem d_Body_signed_35 : decode y_Body_signed.2.1 35 = .ok (.bipush 25, 2) := by decide +kernel
theorem d_Body_signed_37 : decode y_Body_signed.2.1 37 = .ok (.if_icmp .ne 16, 3) := by decide +kernel
theorem d_Body_signed_40 : decode y_Body_signed.2.1 40 = .ok (.iload_n 3, 1) := by decide +kernel
theorem d_Body_signed_41 : decode y_Body_signed.2.1 41 = .ok (.iconst 3, 1) := by decide +kernel
theorem d_Body_signed_42 : decode y_Body_signed.2.1 42 = .ok (.if_icmp .ne 7, 3) := by decide +kernel
theorem d_Body_signed_45 : decode y_Body_signed.2.1 45 = .ok (.iconst 1, 1) := by decide +kernel
theorem d_Body_signed_46 : decode y_Body_signed.2.1 46 = .ok (.goto 21, 3) := by decide +kernel
theorem d_Body_signed_49 : decode y_Body_signed.2.1 49 = .ok (.iconst 0, 1) := by decide +kernel
theorem d_Body_signed_50 : decode y_Body_signed.2.1 50 = .ok (.goto 17, 3) := by decide +kernel
theorem d_Body_signed_53 : decode y_Body_signed.2.1 53 = .ok (.iload_n 3, 1) := by decide +kernel
theorem d_Body_signed_54 : decode y_Body_signed.2.1 54 = .ok (.ifCond .eq 8, 3) := by decide +kernel
theorem d_Body_signed_57 : decode y_Body_signed.2.1 57 = .ok (.iload_n 3, 1) := by decide +kernel
theorem d_Body_signed_58 : decode y_Body_signed.2.1 58 = .ok (.iconst 2, 1) := by decide +kernel
theorem d_Body_signed_59 : decode y_Body_signed.2.1 59 = .ok (.if_icmp .ne 7, 3) := by decide +kernel
theorem d_Body_signed_62 : decode y_Body_signed.2.1 62 = .ok (.iconst 1, 1) := by decide +kernel
theorem d_Body_signed_63 : decode y_Body_signed.2.1 63 = .ok (.goto 4, 3) := by decide +kernel
theorem d_Body_signed_66 : decode y_Body_signed.2.1 66 = .ok (.iconst 0, 1) := by decide +kernel
theorem d_Body_signed_67 : decode y_Body_signed.2.1 67 = .ok (.istore 4, 2) := by decide +kernel
theorem d_Body_signed_69 : decode y_Body_signed.2.1 69 = .ok (.iload 4, 2) := by decide +kernel
theorem d_Body_signed_71 : decode y_Body_signed.2.1 71 = .ok (.ifCond .ne 12, 3) := by decide +kernel
theorem d_Body_signed_74 : decode y_Body_signed.2.1 74 = .ok (.aload_n 0, 1) := by decide +kernel
theorem d_Body_signed_75 : decode y_Body_signed.2.1 75 = .ok (.getfield 7, 3) := by decide +kernel
theorem d_Body_signed_78 : decode y_Body_signed.2.1 78 = .ok (.iconst 5, 1) := by decide +kernel
theorem d_Body_signed_79 : decode y_Body_signed.2.1 79 = .ok (.iload_n 2, 1) := by decide +kernel
theorem d_Body_signed_80 : decode y_Body_signed.2.1 80 = .ok (.invokevirtual 99, 3) := by decide +kernel
theorem d_Body_signed_83 : decode y_Body_signed.2.1 83 = .ok (.iload_n 3, 1) := by decide +kernel
theorem d_Body_signed_84 : decode y_Body_signed.2.1 84 = .ok (.iconst 2, 1) := by decide +kernel
theorem d_Body_signed_85 : decode y_Body_signed.2.1 85 = .ok (.if_icmp .ne 8, 3) := by decide +kernel
theorem d_Body_signed_88 : decode y_Body_signed.2.1 88 = .ok (.bipush 70, 2) := by decide +kernel
theorem d_Body_signed_90 : decode y_Body_signed.2.1 90 = .ok (.goto 5, 3) := by decide +kernel
theorem d_Body_signed_93 : decode y_Body_signed.2.1 93 = .ok (.bipush 50, 2) := by decide +kernel
theorem d_Body_signed_95 : decode y_Body_signed.2.1 95 = .ok (.istore 5, 2) := by decide +kernel
theorem d_Body_signed_97 : decode y_Body_signed.2.1 97 = .ok (.aload_n 0, 1) := by decide +kernel
theorem d_Body_signed_98 : decode y_Body_signed.2.1 98 = .ok (.getfield 17, 3) := by decide +kernel
theorem d_Body_signed_101 : decode y_Body_signed.2.1 101 = .ok (.iload_n 1, 1) := by decide +kernel
theorem d_Body_signed_102 : decode y_Body_signed.2.1 102 = .ok (.bipush 25, 2) := by decide +kernel
theorem d_Body_signed_104 : decode y_Body_signed.2.1 104 = .ok (.if_icmp .ne 8, 3) := by decide +kernel
theorem d_Body_signed_107 : decode y_Body_signed.2.1 107 = .ok (.bipush 51, 2) := by decide +kernel
theorem d_Body_signed_109 : decode y_Body_signed.2.1 109 = .ok (.goto 5, 3) := by decide +kernel
theorem d_Body_signed_112 : decode y_Body_signed.2.1 112 = .ok (.iload 5, 2) := by decide +kernel
theorem d_Body_signed_114 : decode y_Body_signed.2.1 114 = .ok (.invokevirtual 50, 3) := by decide +kernel
theorem d_Body_signed_117 : decode y_Body_signed.2.1 117 = .ok (.pop, 1) := by decide +kernel
theorem d_Body_signed_118 : decode y_Body_signed.2.1 118 = .ok (.iload_n 3, 1) := by decide +kernel
theorem d_Body_signed_119 : decode y_Body_signed.2.1 119 = .ok (.ireturn, 1) := by decide +kernel
theorem s_Body_signed : ab_Stat y_Body_signed 1 := ⟨(k5 152 rfl rfl), (k1 8 rfl rfl), ⟨by decide, by decide⟩, by decide +kernel⟩
theorem i_Body_signed : Cond.instanceMethod y_Body_signed.1 ∈ ab_T := (k5 151 rfl rfl)
theorem v_Body_signed : Cond.selects "WorldEngine$Body" y_Body_signed.1 y_Body_signed.1 ∈ ab_T := ab_s (List.mem_of_getElem? (i := 28) rfl) rfl
def B_Body_signed_114 (N : Nat) (o : Orc_BodyE) (p0 : Nat) (p1 : Int32) (l3 : Int32) (w0 : Nat) (w1 : Int32) (H : Hp) : Option ((Ot Int32) × Hp) :=
    ck (H.sh[w0]? = some (4, 0)) <|
    bC (F_Program_add N w0 w1 H) fun v32 H33 =>
    some (.inl l3, H33)
set_option maxRecDepth 20000 in
set_option maxHeartbeats 2000000 in
theorem mB_Body_signed_114 {N : Nat} {o : Orc_BodyE} (hmo : mo_BodyE o) {p0 : Nat} {p1 : Int32} {l3 : Int32} {w0 : Nat} {w1 : Int32} {H : Hp} {r : (Ot Int32) × Hp} (hF : B_Body_signed_114 N o p0 p1 l3 w0 w1 H = some r) : Mo H r.2 := by
  unfold B_Body_signed_114 at hF
  have hm := Mo.rf H
  obtain ⟨q34, hG⟩ := ck_s hF; clear hF
  obtain ⟨v36, H37, z35, hF⟩ := bC_s hG; clear hG
  replace hm : Mo H H37 := hm.tr ((m_Program_add z35)).mo
  have hr := Option.some.inj hF; subst hr
  exact hm
set_option maxRecDepth 20000 in
set_option maxHeartbeats 2000000 in
theorem kB_Body_signed_114 {N : Nat} {o : Orc_BodyE} {fr lo : Nat} (ho : ok_BodyE o fr lo) (hmo : mo_BodyE o) {p0 : Nat} {p1 : Int32} {c0 s0 C Sl : Nat} {l3 : Int32} {w0 : Nat} {w1 : Int32} {H : Hp} {r : (Ot Int32) × Hp} (hF : B_Body_signed_114 N o p0 p1 l3 w0 w1 H = some r) (hc0 : c0 ≤ H.sh.length) (hs0 : s0 ≤ H.sl) (hcc : H.sh.length ≤ c0 + C) (hss : H.sl ≤ s0 + Sl) (hC : r.2.sh.length ≤ c0 + C) (hS : r.2.sl ≤ s0 + Sl) : ab_V y_Body_signed { frames := fr + 1, cells := C, slots := Sl, locals := lo + 22 } (po (oI r.1) r.2) C Sl (H.sh.length - c0) (H.sl - s0) 114 [some (.ref p0), some (.int p1), none, some (.int l3), none, none] [.int w1, .ref w0] (hpw H) := by
  unfold B_Body_signed_114 at hF
  obtain ⟨q30, hG⟩ := ck_s hF; clear hF
  obtain ⟨v32, H33, z31, hF⟩ := bC_s hG; clear hG
  refine hp_callV_a (v := .int v32) (H1 := H33) (As := [.int w1]) (rest := []) d_Body_signed_114 (k_Program_add z31) (ab_mkC s_Program_add (show 0 + 1 ≤ fr + 1 from by have := ho.1; omega) (show 8 + (2 + 11) + 0 ≤ lo + 22 from by have := ho.2.1; omega) (show (H.sh.length - c0) + 0 ≤ C from by omega) (show (H.sl - s0) + 0 ≤ Sl from by omega)) (k5 117 rfl rfl) i_Program_add v_Program_add q30 (by decide) rfl rfl (Nat.le_of_ble_eq_true rfl) ?_
  have s_14 : Sa H H33 := (m_Program_add z31)
  refine ab_widen (cells' := H.sh.length - c0) (slots' := H.sl - s0) (by show (H.sh.length - c0) + 0 ≤ _; omega) (by show (H.sl - s0) + 0 ≤ _; omega) ?_
  refine ab_pop d_Body_signed_117 rfl ?_
  refine ab_iload_n d_Body_signed_118 rfl rfl ?_
  exact ab_iret d_Body_signed_119 rfl (by show _ ≤ C; omega) (by show _ ≤ Sl; omega) (by have hr := Option.some.inj hF; subst hr; exact ⟨rfl, rfl⟩)
def B_Body_signed_95 (N : Nat) (o : Orc_BodyE) (p0 : Nat) (p1 : Int32) (l3 : Int32) (w0 : Int32) (H : Hp) : Option ((Ot Int32) × Hp) :=
    ck (H.sh[p0]? = some (6, 0)) <|
    rf (H.P p0 1) fun a27 =>
    if p1 = (25 : Int32) then
    B_Body_signed_114 N o p0 p1 l3 a27 51 H
    else
    B_Body_signed_114 N o p0 p1 l3 a27 w0 H
set_option maxRecDepth 20000 in
set_option maxHeartbeats 2000000 in
theorem mB_Body_signed_95 {N : Nat} {o : Orc_BodyE} (hmo : mo_BodyE o) {p0 : Nat} {p1 : Int32} {l3 : Int32} {w0 : Int32} {H : Hp} {r : (Ot Int32) × Hp} (hF : B_Body_signed_95 N o p0 p1 l3 w0 H = some r) : Mo H r.2 := by
  unfold B_Body_signed_95 at hF
  have hm := Mo.rf H
  obtain ⟨q38, hG⟩ := ck_s hF; clear hF
  obtain ⟨a39, e40, hF⟩ := rf_s hG; clear hG
  rcases ite_s hF with ⟨q_15, hG⟩ | ⟨q_15, hG⟩
  · clear hF
    exact hm.tr (mB_Body_signed_114 hmo hG)
  · clear hF
    exact hm.tr (mB_Body_signed_114 hmo hG)
set_option maxRecDepth 20000 in
set_option maxHeartbeats 2000000 in
theorem kB_Body_signed_95 {N : Nat} {o : Orc_BodyE} {fr lo : Nat} (ho : ok_BodyE o fr lo) (hmo : mo_BodyE o) {p0 : Nat} {p1 : Int32} {c0 s0 C Sl : Nat} {l3 : Int32} {w0 : Int32} {H : Hp} {r : (Ot Int32) × Hp} (hF : B_Body_signed_95 N o p0 p1 l3 w0 H = some r) (hc0 : c0 ≤ H.sh.length) (hs0 : s0 ≤ H.sl) (hcc : H.sh.length ≤ c0 + C) (hss : H.sl ≤ s0 + Sl) (hC : r.2.sh.length ≤ c0 + C) (hS : r.2.sl ≤ s0 + Sl) : ab_V y_Body_signed { frames := fr + 1, cells := C, slots := Sl, locals := lo + 22 } (po (oI r.1) r.2) C Sl (H.sh.length - c0) (H.sl - s0) 95 [some (.ref p0), some (.int p1), none, some (.int l3), none, none] [.int w0] (hpw H) := by
  unfold B_Body_signed_95 at hF
  refine ab_istore (lv' := [some (.ref p0), some (.int p1), none, some (.int l3), none, some (.int w0)]) d_Body_signed_95 (by decide) rfl ?_
  refine ab_aload_n d_Body_signed_97 rfl rfl rfl ?_
  obtain ⟨q26, hG⟩ := ck_s hF; clear hF
  obtain ⟨a27, e28, hF⟩ := rf_s hG; clear hG
  refine hp_getR (f := 1) d_Body_signed_98 q26 (by decide) rfl (by decide) (k1 158 rfl rfl) rfl e28 ?_
  refine ab_iload_n d_Body_signed_101 rfl rfl ?_
  refine ab_bipush (v := 25) d_Body_signed_102 (by decide) ?_
  refine ab_icmp_ne (tgt := 112) d_Body_signed_104 (by decide) (fun q29 => ?_) (fun q29 => ?_)
  · rw [if_neg q29] at hF
    refine ab_iload d_Body_signed_112 rfl ?_
    refine ab_le (lv' := [some (.ref p0), some (.int p1), none, some (.int l3), none, none]) ⟨rfl, ⟨rfl, ⟨rfl, trivial⟩⟩⟩ ?_
    exact kB_Body_signed_114 ho hmo hF hc0 hs0 hcc hss hC hS
  · rw [if_pos q29] at hF
    refine ab_bipush (v := 51) d_Body_signed_107 (by decide) ?_
    refine ab_goto (tgt := 114) d_Body_signed_109 (by decide) ?_
    refine ab_le (lv' := [some (.ref p0), some (.int p1), none, some (.int l3), none, none]) ⟨rfl, ⟨rfl, ⟨rfl, trivial⟩⟩⟩ ?_
    exact kB_Body_signed_114 ho hmo hF hc0 hs0 hcc hss hC hS
def B_Body_signed_83 (N : Nat) (o : Orc_BodyE) (p0 : Nat) (p1 : Int32) (l3 : Int32) (H : Hp) : Option ((Ot Int32) × Hp) :=
    if l3 = (2 : Int32) then
    B_Body_signed_95 N o p0 p1 l3 70 H
    else
    B_Body_signed_95 N o p0 p1 l3 50 H
set_option maxRecDepth 20000 in
set_option maxHeartbeats 2000000 in
theorem mB_Body_signed_83 {N : Nat} {o : Orc_BodyE} (hmo : mo_BodyE o) {p0 : Nat} {p1 : Int32} {l3 : Int32} {H : Hp} {r : (Ot Int32) × Hp} (hF : B_Body_signed_83 N o p0 p1 l3 H = some r) : Mo H r.2 := by
  unfold B_Body_signed_83 at hF
  have hm := Mo.rf H
  rcases ite_s hF with ⟨q_16, hG⟩ | ⟨q_16, hG⟩
  · clear hF
    exact hm.tr (mB_Body_signed_95 hmo hG)
  · clear hF
    exact hm.tr (mB_Body_signed_95 hmo hG)
set_option maxRecDepth 20000 in
set_option maxHeartbeats 2000000 in
theorem kB_Body_signed_83 {N : Nat} {o : Orc_BodyE} {fr lo : Nat} (ho : ok_BodyE o fr lo) (hmo : mo_BodyE o) {p0 : Nat} {p1 : Int32} {c0 s0 C Sl : Nat} {l3 : Int32} {H : Hp} {r : (Ot Int32) × Hp} (hF : B_Body_signed_83 N o p0 p1 l3 H = some r) (hc0 : c0 ≤ H.sh.length) (hs0 : s0 ≤ H.sl) (hcc : H.sh.length ≤ c0 + C) (hss : H.sl ≤ s0 + Sl) (hC : r.2.sh.length ≤ c0 + C) (hS : r.2.sl ≤ s0 + Sl) : ab_V y_Body_signed { frames := fr + 1, cells := C, slots := Sl, locals := lo + 22 } (po (oI r.1) r.2) C Sl (H.sh.length - c0) (H.sl - s0) 83 [some (.ref p0), some (.int p1), none, some (.int l3), none, none] [] (hpw H) := by
  unfold B_Body_signed_83 at hF
  refine ab_iload_n d_Body_signed_83 rfl rfl ?_
  refine ab_iconst (v := 2) d_Body_signed_84 (by decide) ?_
  refine ab_icmp_ne (tgt := 93) d_Body_signed_85 (by decide) (fun q25 => ?_) (fun q25 => ?_)
  · rw [if_neg q25] at hF
    refine ab_bipush (v := 50) d_Body_signed_93 (by decide) ?_
    exact kB_Body_signed_95 ho hmo hF hc0 hs0 hcc hss hC hS
  · rw [if_pos q25] at hF
    refine ab_bipush (v := 70) d_Body_signed_88 (by decide) ?_
    refine ab_goto (tgt := 95) d_Body_signed_90 (by decide) ?_
    exact kB_Body_signed_95 ho hmo hF hc0 hs0 hcc hss hC hS
def B_Body_signed_67 (N : Nat) (o : Orc_BodyE) (p0 : Nat) (p1 : Int32) (l2 : Int32) (l3 : Int32) (w0 : Int32) (H : Hp) : Option ((Ot Int32) × Hp) :=
    if w0 = (0 : Int32) then
    ck (H.sh[p0]? = some (6, 0)) <|
    rf (H.P p0 0) fun a44 =>
    ck (H.sh[a44]? = some (1, 0)) <|
    bT (F_Lexer_refuse N a44 (5 : Int32) l2 H) fun v48 H49 =>
    B_Body_signed_83 N o p0 p1 l3 H49
    else
    B_Body_signed_83 N o p0 p1 l3 H
set_option maxRecDepth 20000 in
set_option maxHeartbeats 2000000 in
theorem mB_Body_signed_67 {N : Nat} {o : Orc_BodyE} (hmo : mo_BodyE o) {p0 : Nat} {p1 : Int32} {l2 : Int32} {l3 : Int32} {w0 : Int32} {H : Hp} {r : (Ot Int32) × Hp} (hF : B_Body_signed_67 N o p0 p1 l2 l3 w0 H = some r) : Mo H r.2 := by
  unfold B_Body_signed_67 at hF
  have hm := Mo.rf H
  rcases ite_s hF with ⟨q_21, hG⟩ | ⟨q_21, hG⟩
  · clear hF
    obtain ⟨q52, hF⟩ := ck_s hG; clear hG
    obtain ⟨a53, e54, hG⟩ := rf_s hF; clear hF
    obtain ⟨q55, hF⟩ := ck_s hG; clear hG
    refine bT_c hF (fun x59 H58 z56 er => ?_) (fun v57 H58 z56 hG => ?_)
    · subst er; exact hm.tr (m_Lexer_refuse z56)
    clear hF
    replace hm : Mo H H58 := hm.tr (m_Lexer_refuse z56)
    exact hm.tr (mB_Body_signed_83 hmo hG)
  · clear hF
    exact hm.tr (mB_Body_signed_83 hmo hG)
set_option maxRecDepth 20000 in
set_option maxHeartbeats 2000000 in
theorem kB_Body_signed_67 {N : Nat} {o : Orc_BodyE} {fr lo : Nat} (ho : ok_BodyE o fr lo) (hmo : mo_BodyE o) {p0 : Nat} {p1 : Int32} {c0 s0 C Sl : Nat} {l2 : Int32} {l3 : Int32} {w0 : Int32} {H : Hp} {r : (Ot Int32) × Hp} (hF : B_Body_signed_67 N o p0 p1 l2 l3 w0 H = some r) (hc0 : c0 ≤ H.sh.length) (hs0 : s0 ≤ H.sl) (hcc : H.sh.length ≤ c0 + C) (hss : H.sl ≤ s0 + Sl) (hC : r.2.sh.length ≤ c0 + C) (hS : r.2.sl ≤ s0 + Sl) : ab_V y_Body_signed { frames := fr + 1, cells := C, slots := Sl, locals := lo + 22 } (po (oI r.1) r.2) C Sl (H.sh.length - c0) (H.sl - s0) 67 [some (.ref p0), some (.int p1), some (.int l2), some (.int l3), none, none] [.int w0] (hpw H) := by
  unfold B_Body_signed_67 at hF
  refine ab_istore (lv' := [some (.ref p0), some (.int p1), some (.int l2), some (.int l3), some (.int w0), none]) d_Body_signed_67 (by decide) rfl ?_
  refine ab_iload d_Body_signed_69 rfl ?_
  refine ab_if_ne (tgt := 83) d_Body_signed_71 (by decide) (fun q24 => ?_) (fun q24 => ?_)
  · rw [if_neg q24] at hF
    refine ab_le (lv' := [some (.ref p0), some (.int p1), none, some (.int l3), none, none]) ⟨rfl, ⟨rfl, ⟨rfl, trivial⟩⟩⟩ ?_
    exact kB_Body_signed_83 ho hmo hF hc0 hs0 hcc hss hC hS
  · rw [if_pos q24] at hF
    refine ab_aload_n d_Body_signed_74 rfl rfl rfl ?_
    obtain ⟨q43, hG⟩ := ck_s hF; clear hF
    obtain ⟨a44, e45, hF⟩ := rf_s hG; clear hG
    refine hp_getR (f := 0) d_Body_signed_75 q43 (by decide) rfl (by decide) (k1 157 rfl rfl) rfl e45 ?_
    refine ab_iconst (v := 5) d_Body_signed_78 (by decide) ?_
    refine ab_iload_n d_Body_signed_79 rfl rfl ?_
    obtain ⟨q46, hG⟩ := ck_s hF; clear hF
    refine bT_c hG (fun x50 H49 z47 er => ?_) (fun v48 H49 z47 hF => ?_)
    · subst er
      have mz : Mo H H49 := (m_Lexer_refuse z47)
      have ml := mz.len
      have m2 := mz.2
      have hC9 : H49.sh.length ≤ c0 + C := hC
      have hS9 : H49.sl ≤ s0 + Sl := hS
      refine hp_callV_t (x := x50) (H1 := H49) (As := [.int 5, .int l2]) (rest := []) d_Body_signed_80 (k_Lexer_refuse z47 (C := H49.sh.length - H.sh.length) (Sl := H49.sl - H.sl) (by show H49.sh.length ≤ _; omega) (by show H49.sl ≤ _; omega)) (ab_mkC s_Lexer_refuse (show 6 + 1 ≤ fr + 1 from by have := ho.1; omega) (show 8 + (3 + 11) + 100 ≤ lo + 22 from by have := ho.2.1; omega) (show (H.sh.length - c0) + (H49.sh.length - H.sh.length) ≤ C from by omega) (show (H.sl - s0) + (H49.sl - H.sl) ≤ Sl from by omega)) (k5 135 rfl rfl) i_Lexer_refuse v_Lexer_refuse q46 (by decide) rfl rfl (Nat.le_of_ble_eq_true rfl) ?_
      exact ab_U_out rfl (by show _ + (H49.sh.length - H.sh.length) ≤ C; omega) (by show _ + (H49.sl - H.sl) ≤ Sl; omega) ⟨rfl, rfl⟩
    clear hG
    have mz_17 : Mo H H49 := (m_Lexer_refuse z47)
    have b_18l := (mz_17).len
    have b_18s := (mz_17).2
    have b_18c : c0 ≤ H49.sh.length := by omega
    have b_18d : s0 ≤ H49.sl := by omega
    have q_19 := (mz_17).get q43
    have q_20 := (mz_17).get q46
    have fH49 : Mo H49 r.2 := by
      have hm := Mo.rf H49
      exact hm.tr (mB_Body_signed_83 hmo hF)
    have b_18m := (fH49).len
    have b_18n := (fH49).2
    have b_18p : H49.sh.length ≤ c0 + C := by omega
    have b_18q : H49.sl ≤ s0 + Sl := by omega
    refine hp_callV_v (H1 := H49) (As := [.int 5, .int l2]) (rest := []) d_Body_signed_80 (k_Lexer_refuse z47 (C := H49.sh.length - H.sh.length) (Sl := H49.sl - H.sl) (by show H49.sh.length ≤ _; omega) (by show H49.sl ≤ _; omega)) (ab_mkC s_Lexer_refuse (show 6 + 1 ≤ fr + 1 from by have := ho.1; omega) (show 8 + (3 + 11) + 100 ≤ lo + 22 from by have := ho.2.1; omega) (show (H.sh.length - c0) + (H49.sh.length - H.sh.length) ≤ C from by omega) (show (H.sl - s0) + (H49.sl - H.sl) ≤ Sl from by omega)) (k5 135 rfl rfl) i_Lexer_refuse v_Lexer_refuse q46 (by decide) rfl rfl (Nat.le_of_ble_eq_true rfl) ?_
    refine ab_widen (cells' := H49.sh.length - c0) (slots' := H49.sl - s0) (by show _ + (H49.sh.length - H.sh.length) ≤ _; omega) (by show _ + (H49.sl - H.sl) ≤ _; omega) ?_
    clear b_18l b_18s b_18m b_18n
    refine ab_le (lv' := [some (.ref p0), some (.int p1), none, some (.int l3), none, none]) ⟨rfl, ⟨rfl, ⟨rfl, trivial⟩⟩⟩ ?_
    exact kB_Body_signed_83 ho hmo hF b_18c b_18d b_18p b_18q hC hS
def B_Body_signed_62 (N : Nat) (o : Orc_BodyE) (p0 : Nat) (p1 : Int32) (l2 : Int32) (l3 : Int32) (H : Hp) : Option ((Ot Int32) × Hp) :=
    B_Body_signed_67 N o p0 p1 l2 l3 1 H
set_option maxRecDepth 20000 in
set_option maxHeartbeats 2000000 in
theorem mB_Body_signed_62 {N : Nat} {o : Orc_BodyE} (hmo : mo_BodyE o) {p0 : Nat} {p1 : Int32} {l2 : Int32} {l3 : Int32} {H : Hp} {r : (Ot Int32) × Hp} (hF : B_Body_signed_62 N o p0 p1 l2 l3 H = some r) : Mo H r.2 := by
  unfold B_Body_signed_62 at hF
  have hm := Mo.rf H
  exact hm.tr (mB_Body_signed_67 hmo hF)
set_option maxRecDepth 20000 in
set_option maxHeartbeats 2000000 in
theorem kB_Body_signed_62 {N : Nat} {o : Orc_BodyE} {fr lo : Nat} (ho : ok_BodyE o fr lo) (hmo : mo_BodyE o) {p0 : Nat} {p1 : Int32} {c0 s0 C Sl : Nat} {l2 : Int32} {l3 : Int32} {H : Hp} {r : (Ot Int32) × Hp} (hF : B_Body_signed_62 N o p0 p1 l2 l3 H = some r) (hc0 : c0 ≤ H.sh.length) (hs0 : s0 ≤ H.sl) (hcc : H.sh.length ≤ c0 + C) (hss : H.sl ≤ s0 + Sl) (hC : r.2.sh.length ≤ c0 + C) (hS : r.2.sl ≤ s0 + Sl) : ab_V y_Body_signed { frames := fr + 1, cells := C, slots := Sl, locals := lo + 22 } (po (oI r.1) r.2) C Sl (H.sh.length - c0) (H.sl - s0) 62 [some (.ref p0), some (.int p1), some (.int l2), some (.int l3), none, none] [] (hpw H) := by
  unfold B_Body_signed_62 at hF
  refine ab_iconst (v := 1) d_Body_signed_62 (by decide) ?_
  refine ab_goto (tgt := 67) d_Body_signed_63 (by decide) ?_
  exact kB_Body_signed_67 ho hmo hF hc0 hs0 hcc hss hC hS
def F_Body_signed (N : Nat) (o : Orc_BodyE) (p0 : Nat) (p1 : Int32) (H : Hp) : Option ((Ot Int32) × Hp) :=
    ck (H.sh[p0]? = some (6, 0)) <|
    rf (H.P p0 0) fun a2 =>
    ck (H.sh[a2]? = some (1, 0)) <|
    bnd ((H.D a2 3)) fun x5 =>
    bT (F_Body_deepen N p0 H) fun v7 H8 =>
    rf (H8.P p0 0) fun a10 =>
    ck (H8.sh[a10]? = some (1, 0)) <|
    bC (F_Lexer_advance N a10 H8) fun v14 H15 =>
    bT (o.2 p0 H15) fun v17 H18 =>
    bnd ((H18.D p0 6)) fun x20 =>
    bnd (H18.sD p0 6 (x20 - (1 : Int32))) fun H21 =>
    if p1 = (25 : Int32) then
    if v17 = (3 : Int32) then
    B_Body_signed_67 N o p0 p1 x5 v17 1 H21
    else
    B_Body_signed_67 N o p0 p1 x5 v17 0 H21
    else
    if v17 = (0 : Int32) then
    B_Body_signed_62 N o p0 p1 x5 v17 H21
    else
    if v17 = (2 : Int32) then
    B_Body_signed_62 N o p0 p1 x5 v17 H21
    else
    B_Body_signed_67 N o p0 p1 x5 v17 0 H21
set_option maxRecDepth 20000 in
set_option maxHeartbeats 2000000 in
theorem m_Body_signed {N : Nat} {o : Orc_BodyE} (hmo : mo_BodyE o) {p0 : Nat} {p1 : Int32} {H : Hp} {r : (Ot Int32) × Hp} (hF : F_Body_signed N o p0 p1 H = some r) : Mo H r.2 := by
  unfold F_Body_signed at hF
  have hm := Mo.rf H
  obtain ⟨q26, hG⟩ := ck_s hF; clear hF
  obtain ⟨a27, e28, hF⟩ := rf_s hG; clear hG
  obtain ⟨q29, hG⟩ := ck_s hF; clear hF
  obtain ⟨x30, -, hF⟩ := bnd_g hG; clear hG
  refine bT_c hF (fun x34 H33 z31 er => ?_) (fun v32 H33 z31 hG => ?_)
  · subst er; exact hm.tr (m_Body_deepen z31)
  clear hF
  replace hm : Mo H H33 := hm.tr (m_Body_deepen z31)
  obtain ⟨a35, e36, hF⟩ := rf_s hG; clear hG
  obtain ⟨q37, hG⟩ := ck_s hF; clear hF
  obtain ⟨v39, H40, z38, hF⟩ := bC_s hG; clear hG
  replace hm : Mo H H40 := hm.tr ((m_Lexer_advance z38)).mo
  refine bT_c hF (fun x44 H43 z41 er => ?_) (fun v42 H43 z41 hG => ?_)
  · subst er; exact hm.tr (hmo.2 _ _ _ z41)
  clear hF
  replace hm : Mo H H43 := hm.tr (hmo.2 _ _ _ z41)
  obtain ⟨x45, -, hF⟩ := bnd_g hG; clear hG
  obtain ⟨H46, eH46, hG⟩ := bnd_g hF; clear hF
  replace hm : Mo H H46 := by rw [eH46]; exact hm
  rcases ite_s hG with ⟨q_48, hF⟩ | ⟨q_48, hF⟩
  · clear hG
    rcases ite_s hF with ⟨q_49, hG⟩ | ⟨q_49, hG⟩
    · clear hF
      exact hm.tr (mB_Body_signed_67 hmo hG)
    · clear hF
      exact hm.tr (mB_Body_signed_67 hmo hG)
  · clear hG
    rcases ite_s hF with ⟨q_50, hG⟩ | ⟨q_50, hG⟩
    · clear hF
      exact hm.tr (mB_Body_signed_62 hmo hG)
    · clear hF
      rcases ite_s hG with ⟨q_51, hF⟩ | ⟨q_51, hF⟩
      · clear hG
        exact hm.tr (mB_Body_signed_62 hmo hF)
      · clear hG
        exact hm.tr (mB_Body_signed_67 hmo hF)
set_option maxRecDepth 20000 in
set_option maxHeartbeats 2000000 in
theorem k_Body_signed {N : Nat} {o : Orc_BodyE} {fr lo : Nat} (ho : ok_BodyE o fr lo) (hmo : mo_BodyE o) {p0 : Nat} {p1 : Int32} {H : Hp} {r : (Ot Int32) × Hp} {C Sl : Nat} (hF : F_Body_signed N o p0 p1 H = some r) (hC : r.2.sh.length ≤ H.sh.length + C) (hS : r.2.sl ≤ H.sl + Sl) : ab_M y_Body_signed { frames := fr + 1, cells := C, slots := Sl, locals := lo + 22 } [.ref p0, .int p1] (hpw H) (po (oI r.1) r.2) := by
  unfold F_Body_signed at hF
  obtain ⟨c0, e0⟩ : ∃ q, q = H.sh.length := ⟨_, rfl⟩
  obtain ⟨s0, e1⟩ : ∃ q, q = H.sl := ⟨_, rfl⟩
  rw [← e0] at hC
  rw [← e1] at hS
  have hc0 : c0 ≤ H.sh.length := Nat.le_of_eq e0
  have hs0 : s0 ≤ H.sl := Nat.le_of_eq e1
  have hcc : H.sh.length ≤ c0 + C := by omega
  have hss : H.sl ≤ s0 + Sl := by omega
  refine ab_of2 (lv := [some (.ref p0), some (.int p1), none, none, none, none]) 4 rfl rfl (Nat.le_of_ble_eq_true rfl) ?_
  refine ab_widen (cells' := H.sh.length - c0) (slots' := H.sl - s0) (Nat.zero_le _) (Nat.zero_le _) ?_
  refine ab_aload_n d_Body_signed_0 rfl rfl rfl ?_
  obtain ⟨q1, hG⟩ := ck_s hF; clear hF
  obtain ⟨a2, e3, hF⟩ := rf_s hG; clear hG
  refine hp_getR (f := 0) d_Body_signed_1 q1 (by decide) rfl (by decide) (k1 157 rfl rfl) rfl e3 ?_
  obtain ⟨q4, hG⟩ := ck_s hF; clear hF
  refine hp_getI (f := 3) d_Body_signed_4 q4 (by decide) rfl (by decide) (k1 103 rfl rfl) rfl ?_
  refine ab_topi (fun x5 ex5 => ?_)
  replace hG := bnd_s ex5 hG
  refine ab_istore_n (lv' := [some (.ref p0), some (.int p1), some (.int x5), none, none, none]) d_Body_signed_7 rfl (by decide) rfl ?_
  refine ab_aload_n d_Body_signed_8 rfl rfl rfl ?_
  refine bT_c hG (fun x9 H8 z6 er => ?_) (fun v7 H8 z6 hF => ?_)
  · subst er
    have mz : Mo H H8 := (m_Body_deepen z6)
    have ml := mz.len
    have m2 := mz.2
    have hC9 : H8.sh.length ≤ c0 + C := hC
    have hS9 : H8.sl ≤ s0 + Sl := hS
    refine hp_callV_t (x := x9) (H1 := H8) (As := []) (rest := []) d_Body_signed_9 (k_Body_deepen z6 (C := H8.sh.length - H.sh.length) (Sl := H8.sl - H.sl) (by show H8.sh.length ≤ _; omega) (by show H8.sl ≤ _; omega)) (ab_mkC s_Body_deepen (show 7 + 1 ≤ fr + 1 from by have := ho.1; omega) (show 8 + (1 + 11) + 122 ≤ lo + 22 from by have := ho.2.1; omega) (show (H.sh.length - c0) + (H8.sh.length - H.sh.length) ≤ C from by omega) (show (H.sl - s0) + (H8.sl - H.sl) ≤ Sl from by omega)) (k5 153 rfl rfl) i_Body_deepen v_Body_deepen q1 (by decide) rfl rfl (Nat.le_of_ble_eq_true rfl) ?_
    exact ab_U_out rfl (by show _ + (H8.sh.length - H.sh.length) ≤ C; omega) (by show _ + (H8.sl - H.sl) ≤ Sl; omega) ⟨rfl, rfl⟩
  clear hG
  have mz_1 : Mo H H8 := (m_Body_deepen z6)
  have b_2l := (mz_1).len
  have b_2s := (mz_1).2
  have b_2c : c0 ≤ H8.sh.length := by omega
  have b_2d : s0 ≤ H8.sl := by omega
  have q_3 := (mz_1).get q1
  have q_4 := (mz_1).get q4
  obtain ⟨a10, e11, hG⟩ := rf_s hF; clear hF
  obtain ⟨q12, hF⟩ := ck_s hG; clear hG
  obtain ⟨v14, H15, z13, hG⟩ := bC_s hF; clear hF
  have jH15 : Mo H8 H15 := ((m_Lexer_advance z13)).mo
  have fH15 : Mo H15 r.2 := by
    have hm := Mo.rf H15
    refine bT_c hG (fun x19 H18 z16 er => ?_) (fun v17 H18 z16 hF => ?_)
    · subst er; exact hm.tr (hmo.2 _ _ _ z16)
    clear hG
    replace hm : Mo H15 H18 := hm.tr (hmo.2 _ _ _ z16)
    obtain ⟨x20, -, hG⟩ := bnd_g hF; clear hF
    obtain ⟨H21, eH21, hF⟩ := bnd_g hG; clear hG
    replace hm : Mo H15 H21 := by rw [eH21]; exact hm
    rcases ite_s hF with ⟨q_11, hG⟩ | ⟨q_11, hG⟩
    · clear hF
      rcases ite_s hG with ⟨q_12, hF⟩ | ⟨q_12, hF⟩
      · clear hG
        exact hm.tr (mB_Body_signed_67 hmo hF)
      · clear hG
        exact hm.tr (mB_Body_signed_67 hmo hF)
    · clear hF
      rcases ite_s hG with ⟨q_25, hF⟩ | ⟨q_25, hF⟩
      · clear hG
        exact hm.tr (mB_Body_signed_62 hmo hF)
      · clear hG
        rcases ite_s hF with ⟨q_26, hG⟩ | ⟨q_26, hG⟩
        · clear hF
          exact hm.tr (mB_Body_signed_62 hmo hG)
        · clear hF
          exact hm.tr (mB_Body_signed_67 hmo hG)
  have fH8 : Mo H8 r.2 := jH15.tr fH15
  have b_2m := (fH8).len
  have b_2n := (fH8).2
  have b_2p : H8.sh.length ≤ c0 + C := by omega
  have b_2q : H8.sl ≤ s0 + Sl := by omega
  refine hp_callV_v (H1 := H8) (As := []) (rest := []) d_Body_signed_9 (k_Body_deepen z6 (C := H8.sh.length - H.sh.length) (Sl := H8.sl - H.sl) (by show H8.sh.length ≤ _; omega) (by show H8.sl ≤ _; omega)) (ab_mkC s_Body_deepen (show 7 + 1 ≤ fr + 1 from by have := ho.1; omega) (show 8 + (1 + 11) + 122 ≤ lo + 22 from by have := ho.2.1; omega) (show (H.sh.length - c0) + (H8.sh.length - H.sh.length) ≤ C from by omega) (show (H.sl - s0) + (H8.sl - H.sl) ≤ Sl from by omega)) (k5 153 rfl rfl) i_Body_deepen v_Body_deepen q1 (by decide) rfl rfl (Nat.le_of_ble_eq_true rfl) ?_
  refine ab_widen (cells' := H8.sh.length - c0) (slots' := H8.sl - s0) (by show _ + (H8.sh.length - H.sh.length) ≤ _; omega) (by show _ + (H8.sl - H.sl) ≤ _; omega) ?_
  clear b_2l b_2s b_2m b_2n
  refine ab_aload_n d_Body_signed_12 rfl rfl rfl ?_
  refine hp_getR (f := 0) d_Body_signed_13 q_3 (by decide) rfl (by decide) (k1 157 rfl rfl) rfl e11 ?_
  refine hp_callV_v (H1 := H15) (As := []) (rest := []) d_Body_signed_16 (k_Lexer_advance z13) (ab_mkC s_Lexer_advance (show 0 + 1 ≤ fr + 1 from by have := ho.1; omega) (show 8 + (1 + 11) + 0 ≤ lo + 22 from by have := ho.2.1; omega) (show (H8.sh.length - c0) + 0 ≤ C from by omega) (show (H8.sl - s0) + 0 ≤ Sl from by omega)) (k5 129 rfl rfl) i_Lexer_advance v_Lexer_advance q12 (by decide) rfl rfl (Nat.le_of_ble_eq_true rfl) ?_
  have s_28 : Sa H8 H15 := (m_Lexer_advance z13)
  refine ab_widen (cells' := H8.sh.length - c0) (slots' := H8.sl - s0) (by show (H8.sh.length - c0) + 0 ≤ _; omega) (by show (H8.sl - s0) + 0 ≤ _; omega) ?_
  refine ab_aload_n d_Body_signed_19 rfl rfl rfl ?_
  refine bT_c hG (fun x19 H18 z16 er => ?_) (fun v17 H18 z16 hF => ?_)
  · subst er
    refine ab_widen (cells' := H15.sh.length - c0) (slots' := H15.sl - s0) (by rw [(s_28).1]; exact Nat.le_refl _) (by rw [(s_28).2]; exact Nat.le_refl _) ?_
    have mz : Mo H15 H18 := (hmo.2 _ _ _ z16)
    have ml := mz.len
    have m2 := mz.2
    have be := congrArg List.length (s_28).1
    have bfx := (s_28).2
    have hC9 : H18.sh.length ≤ c0 + C := hC
    have hS9 : H18.sl ≤ s0 + Sl := hS
    refine hp_callV_t (x := x19) (H1 := H18) (As := []) (rest := []) d_Body_signed_20 (ho.2.2.2 _ _ _ z16 (H18.sh.length - H15.sh.length) (H18.sl - H15.sl) (by show H18.sh.length ≤ _; omega) (by show H18.sl ≤ _; omega)) (ab_mkC s_Body_unary (show fr + 1 ≤ fr + 1 from by have := ho.1; omega) (show 8 + (1 + 11) + lo ≤ lo + 22 from by have := ho.2.1; omega) (show (H15.sh.length - c0) + (H18.sh.length - H15.sh.length) ≤ C from by omega) (show (H15.sl - s0) + (H18.sl - H15.sl) ≤ Sl from by omega)) (k5 145 rfl rfl) i_Body_unary v_Body_unary (by rw [(s_28).1]; exact q_3) (by decide) rfl rfl (Nat.le_of_ble_eq_true rfl) ?_
    exact ab_U_out rfl (by show _ + (H18.sh.length - H15.sh.length) ≤ C; omega) (by show _ + (H18.sl - H15.sl) ≤ Sl; omega) ⟨rfl, rfl⟩
  clear hG
  refine ab_widen (cells' := H15.sh.length - c0) (slots' := H15.sl - s0) (by rw [(s_28).1]; exact Nat.le_refl _) (by rw [(s_28).2]; exact Nat.le_refl _) ?_
  have mz_29 : Mo H15 H18 := (hmo.2 _ _ _ z16)
  have b_30l := (mz_29).len
  have b_30s := (mz_29).2
  have b_30e := congrArg List.length (s_28).1
  have b_30f := (s_28).2
  have b_30c : c0 ≤ H18.sh.length := by omega
  have b_30d : s0 ≤ H18.sl := by omega
  have q_31 := (mz_29).get (by rw [(s_28).1]; exact q_3)
  have q_32 := (mz_29).get (by rw [(s_28).1]; exact q_4)
  have q_33 := (mz_29).get (by rw [(s_28).1]; exact q12)
  obtain ⟨x20, ex20, hG⟩ := bnd_g hF; clear hF
  obtain ⟨H21, eH21, hF⟩ := bnd_g hG; clear hG
  have jH21 : Mo H18 H21 := by rw [eH21]; exact Mo.rf _
  have fH21 : Mo H21 r.2 := by
    have hm := Mo.rf H21
    rcases ite_s hF with ⟨q_35, hG⟩ | ⟨q_35, hG⟩
    · clear hF
      rcases ite_s hG with ⟨q_36, hF⟩ | ⟨q_36, hF⟩
      · clear hG
        exact hm.tr (mB_Body_signed_67 hmo hF)
      · clear hG
        exact hm.tr (mB_Body_signed_67 hmo hF)
    · clear hF
      rcases ite_s hG with ⟨q_37, hF⟩ | ⟨q_37, hF⟩
      · clear hG
        exact hm.tr (mB_Body_signed_62 hmo hF)
      · clear hG
        rcases ite_s hF with ⟨q_38, hG⟩ | ⟨q_38, hG⟩
        · clear hF
          exact hm.tr (mB_Body_signed_62 hmo hG)
        · clear hF
          exact hm.tr (mB_Body_signed_67 hmo hG)
  have fH18 : Mo H18 r.2 := jH21.tr fH21
  have b_30m := (fH18).len
  have b_30n := (fH18).2
  have b_30p : H18.sh.length ≤ c0 + C := by omega
  have b_30q : H18.sl ≤ s0 + Sl := by omega
  refine hp_callV_a (v := .int v17) (H1 := H18) (As := []) (rest := []) d_Body_signed_20 (ho.2.2.2 _ _ _ z16 (H18.sh.length - H15.sh.length) (H18.sl - H15.sl) (by show H18.sh.length ≤ _; omega) (by show H18.sl ≤ _; omega)) (ab_mkC s_Body_unary (show fr + 1 ≤ fr + 1 from by have := ho.1; omega) (show 8 + (1 + 11) + lo ≤ lo + 22 from by have := ho.2.1; omega) (show (H15.sh.length - c0) + (H18.sh.length - H15.sh.length) ≤ C from by omega) (show (H15.sl - s0) + (H18.sl - H15.sl) ≤ Sl from by omega)) (k5 145 rfl rfl) i_Body_unary v_Body_unary (by rw [(s_28).1]; exact q_3) (by decide) rfl rfl (Nat.le_of_ble_eq_true rfl) ?_
  refine ab_widen (cells' := H18.sh.length - c0) (slots' := H18.sl - s0) (by show _ + (H18.sh.length - H15.sh.length) ≤ _; omega) (by show _ + (H18.sl - H15.sl) ≤ _; omega) ?_
  clear b_30l b_30s b_30m b_30n b_30e b_30f b_2c b_2d b_2p b_2q
  refine ab_istore_n (lv' := [some (.ref p0), some (.int p1), some (.int x5), some (.int v17), none, none]) d_Body_signed_23 rfl (by decide) rfl ?_
  refine ab_aload_n d_Body_signed_24 rfl rfl rfl ?_
  refine ab_dup d_Body_signed_25 rfl ?_
  refine hp_getI (f := 6) d_Body_signed_26 q_31 (by decide) rfl (by decide) (k1 163 rfl rfl) rfl ?_
  refine ab_topxi ex20 ?_
  refine ab_iconst (v := 1) d_Body_signed_29 (by decide) ?_
  refine ab_isub d_Body_signed_30 ?_
  refine hp_putI (v := x20 - (1 : Int32)) (f := 6) d_Body_signed_31 q_31 (by decide) rfl (by decide) (k1 163 rfl rfl) rfl rfl (fun _ => rfl) (fun _ => rfl) rfl ?_
  refine hp_genx eH21 ?_
  have s_39 : Sa H18 H21 := by rw [eH21]; exact Sa.rf _
  refine ab_iload_n d_Body_signed_34 rfl rfl ?_
  refine ab_bipush (v := 25) d_Body_signed_35 (by decide) ?_
  refine ab_icmp_ne (tgt := 53) d_Body_signed_37 (by decide) (fun q22 => ?_) (fun q22 => ?_)
  · rw [if_neg q22] at hF
    refine ab_iload_n d_Body_signed_53 rfl rfl ?_
    refine ab_if_eq (tgt := 62) d_Body_signed_54 (by decide) (fun q23 => ?_) (fun q23 => ?_)
    · rw [if_pos q23] at hF
      refine ab_widen (cells' := H21.sh.length - c0) (slots' := H21.sl - s0) (by rw [(s_39).1]; exact Nat.le_refl _) (by rw [(s_39).2]; exact Nat.le_refl _) ?_
      exact kB_Body_signed_62 ho hmo hF (by rw [(s_39).1]; exact b_30c) (by rw [(s_39).2]; exact b_30d) (by rw [(s_39).1]; exact b_30p) (by rw [(s_39).2]; exact b_30q) hC hS
    · rw [if_neg q23] at hF
      refine ab_iload_n d_Body_signed_57 rfl rfl ?_
      refine ab_iconst (v := 2) d_Body_signed_58 (by decide) ?_
      refine ab_icmp_ne (tgt := 66) d_Body_signed_59 (by decide) (fun q24 => ?_) (fun q24 => ?_)
      · rw [if_neg q24] at hF
        refine ab_iconst (v := 0) d_Body_signed_66 (by decide) ?_
        refine ab_widen (cells' := H21.sh.length - c0) (slots' := H21.sl - s0) (by rw [(s_39).1]; exact Nat.le_refl _) (by rw [(s_39).2]; exact Nat.le_refl _) ?_
        exact kB_Body_signed_67 ho hmo hF (by rw [(s_39).1]; exact b_30c) (by rw [(s_39).2]; exact b_30d) (by rw [(s_39).1]; exact b_30p) (by rw [(s_39).2]; exact b_30q) hC hS
      · rw [if_pos q24] at hF
        refine ab_widen (cells' := H21.sh.length - c0) (slots' := H21.sl - s0) (by rw [(s_39).1]; exact Nat.le_refl _) (by rw [(s_39).2]; exact Nat.le_refl _) ?_
        exact kB_Body_signed_62 ho hmo hF (by rw [(s_39).1]; exact b_30c) (by rw [(s_39).2]; exact b_30d) (by rw [(s_39).1]; exact b_30p) (by rw [(s_39).2]; exact b_30q) hC hS
  · rw [if_pos q22] at hF
    refine ab_iload_n d_Body_signed_40 rfl rfl ?_
    refine ab_iconst (v := 3) d_Body_signed_41 (by decide) ?_
    refine ab_icmp_ne (tgt := 49) d_Body_signed_42 (by decide) (fun q25 => ?_) (fun q25 => ?_)
    · rw [if_neg q25] at hF
      refine ab_iconst (v := 0) d_Body_signed_49 (by decide) ?_
      refine ab_goto (tgt := 67) d_Body_signed_50 (by decide) ?_
      refine ab_widen (cells' := H21.sh.length - c0) (slots' := H21.sl - s0) (by rw [(s_39).1]; exact Nat.le_refl _) (by rw [(s_39).2]; exact Nat.le_refl _) ?_
      exact kB_Body_signed_67 ho hmo hF (by rw [(s_39).1]; exact b_30c) (by rw [(s_39).2]; exact b_30d) (by rw [(s_39).1]; exact b_30p) (by rw [(s_39).2]; exact b_30q) hC hS
    · rw [if_pos q25] at hF
      refine ab_iconst (v := 1) d_Body_signed_45 (by decide) ?_
      refine ab_goto (tgt := 67) d_Body_signed_46 (by decide) ?_
      refine ab_widen (cells' := H21.sh.length - c0) (slots' := H21.sl - s0) (by rw [(s_39).1]; exact Nat.le_refl _) (by rw [(s_39).2]; exact Nat.le_refl _) ?_
      exact kB_Body_signed_67 ho hmo hF (by rw [(s_39).1]; exact b_30c) (by rw [(s_39).2]; exact b_30d) (by rw [(s_39).1]; exact b_30p) (by rw [(s_39).2]; exact b_30q) hC hS
