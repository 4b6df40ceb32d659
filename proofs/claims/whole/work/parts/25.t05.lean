def y_Lexer_behindSign : ab_Y := (⟨"WorldEngine$Lexer", "behindSign", "(I)I"⟩, prog_3_method_13_code, 5, (some FieldType.int), [])
theorem d_Lexer_behindSign_0 : decode y_Lexer_behindSign.2.1 0 = .ok (.aload_n 0, 1) := by decide +kernel
theorem d_Lexer_behindSign_1 : decode y_Lexer_behindSign.2.1 1 = .ok (.iload_n 1, 1) := by decide +kernel
theorem d_Lexer_behindSign_2 : decode y_Lexer_behindSign.2.1 2 = .ok (.invokevirtual 74, 3) := by decide +kernel
theorem d_Lexer_behindSign_5 : decode y_Lexer_behindSign.2.1 5 = .ok (.istore_n 2, 1) := by decide +kernel
theorem d_Lexer_behindSign_6 : decode y_Lexer_behindSign.2.1 6 = .ok (.iload_n 1, 1) := by decide +kernel
theorem d_Lexer_behindSign_7 : decode y_Lexer_behindSign.2.1 7 = .ok (.iconst 1, 1) := by decide +kernel
theorem d_Lexer_behindSign_8 : decode y_Lexer_behindSign.2.1 8 = .ok (.iadd, 1) := by decide +kernel
theorem d_Lexer_behindSign_9 : decode y_Lexer_behindSign.2.1 9 = .ok (.aload_n 0, 1) := by decide +kernel
theorem d_Lexer_behindSign_10 : decode y_Lexer_behindSign.2.1 10 = .ok (.getfield 42, 3) := by decide +kernel
theorem d_Lexer_behindSign_13 : decode y_Lexer_behindSign.2.1 13 = .ok (.if_icmp .ge 13, 3) := by decide +kernel
theorem d_Lexer_behindSign_16 : decode y_Lexer_behindSign.2.1 16 = .ok (.aload_n 0, 1) := by decide +kernel
theorem d_Lexer_behindSign_17 : decode y_Lexer_behindSign.2.1 17 = .ok (.iload_n 1, 1) := by decide +kernel
theorem d_Lexer_behindSign_18 : decode y_Lexer_behindSign.2.1 18 = .ok (.iconst 1, 1) := by decide +kernel
theorem d_Lexer_behindSign_19 : decode y_Lexer_behindSign.2.1 19 = .ok (.iadd, 1) := by decide +kernel
theorem d_Lexer_behindSign_20 : decode y_Lexer_behindSign.2.1 20 = .ok (.invokevirtual 74, 3) := by decide +kernel
theorem d_Lexer_behindSign_23 : decode y_Lexer_behindSign.2.1 23 = .ok (.goto 4, 3) := by decide +kernel
theorem d_Lexer_behindSign_26 : decode y_Lexer_behindSign.2.1 26 = .ok (.iconst 0, 1) := by decide +kernel
theorem d_Lexer_behindSign_27 : decode y_Lexer_behindSign.2.1 27 = .ok (.istore_n 3, 1) := by decide +kernel
theorem d_Lexer_behindSign_28 : decode y_Lexer_behindSign.2.1 28 = .ok (.iconst 1, 1) := by decide +kernel
theorem d_Lexer_behindSign_29 : decode y_Lexer_behindSign.2.1 29 = .ok (.istore 4, 2) := by decide +kernel
theorem d_Lexer_behindSign_31 : decode y_Lexer_behindSign.2.1 31 = .ok (.iload_n 3, 1) := by decide +kernel
theorem d_Lexer_behindSign_32 : decode y_Lexer_behindSign.2.1 32 = .ok (.bipush 61, 2) := by decide +kernel
theorem d_Lexer_behindSign_34 : decode y_Lexer_behindSign.2.1 34 = .ok (.if_icmp .ne 67, 3) := by decide +kernel
theorem d_Lexer_behindSign_37 : decode y_Lexer_behindSign.2.1 37 = .ok (.iload_n 2, 1) := by decide +kernel
theorem d_Lexer_behindSign_38 : decode y_Lexer_behindSign.2.1 38 = .ok (.bipush 60, 2) := by decide +kernel
theorem d_Lexer_behindSign_40 : decode y_Lexer_behindSign.2.1 40 = .ok (.if_icmp .eq 21, 3) := by decide +kernel
theorem d_Lexer_behindSign_43 : decode y_Lexer_behindSign.2.1 43 = .ok (.iload_n 2, 1) := by decide +kernel
theorem d_Lexer_behindSign_44 : decode y_Lexer_behindSign.2.1 44 = .ok (.bipush 62, 2) := by decide +kernel
theorem d_Lexer_behindSign_46 : decode y_Lexer_behindSign.2.1 46 = .ok (.if_icmp .eq 15, 3) := by decide +kernel
theorem d_Lexer_behindSign_49 : decode y_Lexer_behindSign.2.1 49 = .ok (.iload_n 2, 1) := by decide +kernel
theorem d_Lexer_behindSign_50 : decode y_Lexer_behindSign.2.1 50 = .ok (.bipush 61, 2) := by decide +kernel
theorem d_Lexer_behindSign_52 : decode y_Lexer_behindSign.2.1 52 = .ok (.if_icmp .eq 9, 3) := by decide +kernel
theorem d_Lexer_behindSign_55 : decode y_Lexer_behindSign.2.1 55 = .ok (.iload_n 2, 1) := by decide +kernel
theorem d_Lexer_behindSign_56 : decode y_Lexer_behindSign.2.1 56 = .ok (.bipush 33, 2) := by decide +kernel
theorem d_Lexer_behindSign_58 : decode y_Lexer_behindSign.2.1 58 = .ok (.if_icmp .ne 43, 3) := by decide +kernel
theorem d_Lexer_behindSign_61 : decode y_Lexer_behindSign.2.1 61 = .ok (.iload_n 2, 1) := by decide +kernel
theorem d_Lexer_behindSign_62 : decode y_Lexer_behindSign.2.1 62 = .ok (.bipush 60, 2) := by decide +kernel
theorem d_Lexer_behindSign_64 : decode y_Lexer_behindSign.2.1 64 = .ok (.if_icmp .ne 8, 3) := by decide +kernel
theorem d_Lexer_behindSign_67 : decode y_Lexer_behindSign.2.1 67 = .ok (.bipush 26, 2) := by decide +kernel
theorem d_Lexer_behindSign_69 : decode y_Lexer_behindSign.2.1 69 = .ok (.goto 27, 3) := by decide +kernel
theorem d_Lexer_behindSign_72 : decode y_Lexer_behindSign.2.1 72 = .ok (.iload_n 2, 1) := by decide +kernel
theorem d_Lexer_behindSign_73 : decode y_Lexer_behindSign.2.1 73 = .ok (.bipush 62, 2) := by decide +kernel
theorem d_Lexer_behindSign_75 : decode y_Lexer_behindSign.2.1 75 = .ok (.if_icmp .ne 8, 3) := by decide +kernel
theorem d_Lexer_behindSign_78 : decode y_Lexer_behindSign.2.1 78 = .ok (.bipush 27, 2) := by decide +kernel
theorem d_Lexer_behindSign_80 : decode y_Lexer_behindSign.2.1 80 = .ok (.goto 16, 3) := by decide +kernel
theorem d_Lexer_behindSign_83 : decode y_Lexer_behindSign.2.1 83 = .ok (.iload_n 2, 1) := by decide +kernel
theorem d_Lexer_behindSign_84 : decode y_Lexer_behindSign.2.1 84 = .ok (.bipush 61, 2) := by decide +kernel
theorem d_Lexer_behindSign_86 : decode y_Lexer_behindSign.2.1 86 = .ok (.if_icmp .ne 8, 3) := by decide +kernel
theorem d_Lexer_behindSign_89 : decode y_Lexer_behindSign.2.1 89 = .ok (.bipush 28, 2) := by decide +kernel
theorem d_Lexer_behindSign_91 : decode y_Lexer_behindSign.2.1 91 = .ok (.goto 5, 3) := by decide +kernel
theorem d_Lexer_behindSign_94 : decode y_Lexer_behindSign.2.1 94 = .ok (.bipush 29, 2) := by decide +kernel
theorem d_Lexer_behindSign_96 : decode y_Lexer_behindSign.2.1 96 = .ok (.istore 4, 2) := by decide +kernel
theorem d_Lexer_behindSign_98 : decode y_Lexer_behindSign.2.1 98 = .ok (.goto 69, 3) := by decide +kernel
theorem d_Lexer_behindSign_101 : decode y_Lexer_behindSign.2.1 101 = .ok (.iload_n 3, 1) := by decide +kernel
theorem d_Lexer_behindSign_102 : decode y_Lexer_behindSign.2.1 102 = .ok (.iload_n 2, 1) := by decide +kernel
theorem d_Lexer_behindSign_103 : decode y_Lexer_behindSign.2.1 103 = .ok (.if_icmp .ne 33, 3) := by decide +kernel
theorem d_Lexer_behindSign_106 : decode y_Lexer_behindSign.2.1 106 = .ok (.iload_n 2, 1) := by decide +kernel
theorem d_Lexer_behindSign_107 : decode y_Lexer_behindSign.2.1 107 = .ok (.bipush 38, 2) := by decide +kernel
theorem d_Lexer_behindSign_109 : decode y_Lexer_behindSign.2.1 109 = .ok (.if_icmp .eq 9, 3) := by decide +kernel
theorem d_Lexer_behindSign_112 : decode y_Lexer_behindSign.2.1 112 = .ok (.iload_n 2, 1) := by decide +kernel
theorem d_Lexer_behindSign_113 : decode y_Lexer_behindSign.2.1 113 = .ok (.bipush 124, 2) := by decide +kernel
theorem d_Lexer_behindSign_115 : decode y_Lexer_behindSign.2.1 115 = .ok (.if_icmp .ne 21, 3) := by decide +kernel
theorem d_Lexer_behindSign_118 : decode y_Lexer_behindSign.2.1 118 = .ok (.iload_n 2, 1) := by decide +kernel
theorem d_Lexer_behindSign_119 : decode y_Lexer_behindSign.2.1 119 = .ok (.bipush 38, 2) := by decide +kernel
theorem d_Lexer_behindSign_121 : decode y_Lexer_behindSign.2.1 121 = .ok (.if_icmp .ne 8, 3) := by decide +kernel
theorem d_Lexer_behindSign_124 : decode y_Lexer_behindSign.2.1 124 = .ok (.bipush 30, 2) := by decide +kernel
theorem d_Lexer_behindSign_126 : decode y_Lexer_behindSign.2.1 126 = .ok (.goto 5, 3) := by decide +kernel
theorem d_Lexer_behindSign_129 : decode y_Lexer_behindSign.2.1 129 = .ok (.bipush 31, 2) := by decide +kernel
theorem d_Lexer_behindSign_131 : decode y_Lexer_behindSign.2.1 131 = .ok (.istore 4, 2) := by decide +kernel
theorem d_Lexer_behindSign_133 : decode y_Lexer_behindSign.2.1 133 = .ok (.goto 34, 3) := by decide +kernel
theorem d_Lexer_behindSign_136 : decode y_Lexer_behindSign.2.1 136 = .ok (.ldc 122, 2) := by decide +kernel
theorem d_Lexer_behindSign_138 : decode y_Lexer_behindSign.2.1 138 = .ok (.iload_n 2, 1) := by decide +kernel
theorem d_Lexer_behindSign_139 : decode y_Lexer_behindSign.2.1 139 = .ok (.i2c, 1) := by decide +kernel
theorem d_Lexer_behindSign_140 : decode y_Lexer_behindSign.2.1 140 = .ok (.invokevirtual 124, 3) := by decide +kernel
theorem d_Lexer_behindSign_143 : decode y_Lexer_behindSign.2.1 143 = .ok (.ifCond .lt 24, 3) := by decide +kernel
theorem d_Lexer_behindSign_146 : decode y_Lexer_behindSign.2.1 146 = .ok (.aload_n 0, 1) := by decide +kernel
theorem d_Lexer_behindSign_147 : decode y_Lexer_behindSign.2.1 147 = .ok (.bipush 10, 2) := by decide +kernel
theorem d_Lexer_behindSign_149 : decode y_Lexer_behindSign.2.1 149 = .ok (.ldc 122, 2) := by decide +kernel
theorem d_Lexer_behindSign_151 : decode y_Lexer_behindSign.2.1 151 = .ok (.iload_n 2, 1) := by decide +kernel
theorem d_Lexer_behindSign_152 : decode y_Lexer_behindSign.2.1 152 = .ok (.i2c, 1) := by decide +kernel
theorem d_Lexer_behindSign_153 : decode y_Lexer_behindSign.2.1 153 = .ok (.invokevirtual 124, 3) := by decide +kernel
theorem d_Lexer_behindSign_156 : decode y_Lexer_behindSign.2.1 156 = .ok (.iadd, 1) := by decide +kernel
theorem d_Lexer_behindSign_157 : decode y_Lexer_behindSign.2.1 157 = .ok (.iload_n 1, 1) := by decide +kernel
theorem d_Lexer_behindSign_158 : decode y_Lexer_behindSign.2.1 158 = .ok (.iconst 0, 1) := by decide +kernel
theorem d_Lexer_behindSign_159 : decode y_Lexer_behindSign.2.1 159 = .ok (.iconst 0, 1) := by decide +kernel
theorem d_Lexer_behindSign_160 : decode y_Lexer_behindSign.2.1 160 = .ok (.invokevirtual 61, 3) := by decide +kernel
theorem d_Lexer_behindSign_163 : decode y_Lexer_behindSign.2.1 163 = .ok (.iload_n 1, 1) := by decide +kernel
theorem d_Lexer_behindSign_164 : decode y_Lexer_behindSign.2.1 164 = .ok (.iconst 1, 1) := by decide +kernel
theorem d_Lexer_behindSign_165 : decode y_Lexer_behindSign.2.1 165 = .ok (.iadd, 1) := by decide +kernel
theorem d_Lexer_behindSign_166 : decode y_Lexer_behindSign.2.1 166 = .ok (.ireturn, 1) := by decide +kernel
theorem d_Lexer_behindSign_167 : decode y_Lexer_behindSign.2.1 167 = .ok (.aload_n 0, 1) := by decide +kernel
theorem d_Lexer_behindSign_168 : decode y_Lexer_behindSign.2.1 168 = .ok (.iload 4, 2) := by decide +kernel
theorem d_Lexer_behindSign_170 : decode y_Lexer_behindSign.2.1 170 = .ok (.iload_n 1, 1) := by decide +kernel
theorem d_Lexer_behindSign_171 : decode y_Lexer_behindSign.2.1 171 = .ok (.iconst 0, 1) := by decide +kernel
theorem d_Lexer_behindSign_172 : decode y_Lexer_behindSign.2.1 172 = .ok (.iconst 0, 1) := by decide +kernel
theorem d_Lexer_behindSign_173 : decode y_Lexer_behindSign.2.1 173 = .ok (.invokevirtual 61, 3) := by decide +kernel
theorem d_Lexer_behindSign_176 : decode y_Lexer_behindSign.2.1 176 = .ok (.iload_n 1, 1) := by decide +kernel
theorem d_Lexer_behindSign_177 : decode y_Lexer_behindSign.2.1 177 = .ok (.iconst 2, 1) := by decide +kernel
theorem d_Lexer_behindSign_178 : decode y_Lexer_behindSign.2.1 178 = .ok (.iadd, 1) := by decide +kernel
theorem d_Lexer_behindSign_179 : decode y_Lexer_behindSign.2.1 179 = .ok (.ireturn, 1) := by decide +kernel
theorem s_Lexer_behindSign : ab_Stat y_Lexer_behindSign 1 := ⟨(k4 32 rfl rfl), (k1 2 rfl rfl), ⟨by decide, by decide⟩, by decide +kernel⟩
theorem i_Lexer_behindSign : Cond.instanceMethod y_Lexer_behindSign.1 ∈ ab_T := (k4 31 rfl rfl)
theorem v_Lexer_behindSign : Cond.selects "WorldEngine$Lexer" y_Lexer_behindSign.1 y_Lexer_behindSign.1 ∈ ab_T := ab_s (List.mem_of_getElem? (i := 7) rfl) rfl
def F_Str_isLatin1_K2 (N : Nat)  (H : Hp) : Option (Int32 × Hp) :=
    if (1 : Int32) = (0 : Int32) then
    some (0, H)
    else
    if (0 : Int32) = (0 : Int32) then
    some (1, H)
    else
    some (0, H)
set_option maxRecDepth 20000 in
set_option maxHeartbeats 2000000 in
theorem m_Str_isLatin1_K2 {N : Nat}  {H : Hp} {r : Int32 × Hp} (hF : F_Str_isLatin1_K2 N  H = some r) : Sa H r.2 := by
  unfold F_Str_isLatin1_K2 at hF
  have hm := Sa.rf H
  rcases ite_s hF with ⟨q_1, hG⟩ | ⟨q_1, hG⟩
  · clear hF
    have hr := Option.some.inj hG; subst hr
    exact hm
  · clear hF
    rcases ite_s hG with ⟨q_2, hF⟩ | ⟨q_2, hF⟩
    · clear hG
      have hr := Option.some.inj hF; subst hr
      exact hm
    · clear hG
      have hr := Option.some.inj hF; subst hr
      exact hm
set_option maxRecDepth 20000 in
set_option maxHeartbeats 2000000 in
theorem k_Str_isLatin1_K2 {N : Nat}  {H : Hp} {r : Int32 × Hp} (hF : F_Str_isLatin1_K2 N  H = some r) : ab_M y_Str_isLatin1 { frames := 0, cells := 0, slots := 0, locals := 0 } [.float 2] (hpw H) (po (.returned (some (.int r.1))) r.2) := by
  unfold F_Str_isLatin1_K2 at hF
  refine ab_of2 (lv := [some (.float 2)]) 0 rfl (by decide +kernel) (Nat.le_of_ble_eq_true rfl) ?_
  refine ab_getsC d_Str_isLatin1_0 (k1 54 rfl rfl) ?_
  refine ab_if_eq (tgt := 17) d_Str_isLatin1_3 (by decide) (fun q1 => ?_) (fun q1 => ?_)
  · rw [if_pos q1] at hF
    refine ab_iconst (v := 0) d_Str_isLatin1_17 (by decide) ?_
    exact ab_zret d_Str_isLatin1_18 rfl rfl (Nat.le_refl _) (Nat.le_refl _) (by have hr := Option.some.inj hF; subst hr; exact ⟨rfl, rfl⟩)
  · rw [if_neg q1] at hF
    refine ab_aload_n d_Str_isLatin1_6 rfl rfl rfl ?_
    refine ab_getKc d_Str_isLatin1_7 (by decide) (k4 228 rfl rfl) ?_
    refine ab_if_ne (tgt := 17) d_Str_isLatin1_10 (by decide) (fun q2 => ?_) (fun q2 => ?_)
    · rw [if_neg q2] at hF
      refine ab_iconst (v := 0) d_Str_isLatin1_17 (by decide) ?_
      exact ab_zret d_Str_isLatin1_18 rfl rfl (Nat.le_refl _) (Nat.le_refl _) (by have hr := Option.some.inj hF; subst hr; exact ⟨rfl, rfl⟩)
    · rw [if_pos q2] at hF
      refine ab_iconst (v := 1) d_Str_isLatin1_13 (by decide) ?_
      refine ab_goto (tgt := 18) d_Str_isLatin1_14 (by decide) ?_
      exact ab_zret d_Str_isLatin1_18 rfl rfl (Nat.le_refl _) (Nat.le_refl _) (by have hr := Option.some.inj hF; subst hr; exact ⟨rfl, rfl⟩)
def F_Str_coder_K2 (N : Nat)  (H : Hp) : Option (Int32 × Hp) :=
    if (1 : Int32) = (0 : Int32) then
    some (1, H)
    else
    some (0, H)
set_option maxRecDepth 20000 in
set_option maxHeartbeats 2000000 in
theorem m_Str_coder_K2 {N : Nat}  {H : Hp} {r : Int32 × Hp} (hF : F_Str_coder_K2 N  H = some r) : Sa H r.2 := by
  unfold F_Str_coder_K2 at hF
  have hm := Sa.rf H
  rcases ite_s hF with ⟨q_1, hG⟩ | ⟨q_1, hG⟩
  · clear hF
    have hr := Option.some.inj hG; subst hr
    exact hm
  · clear hF
    have hr := Option.some.inj hG; subst hr
    exact hm
set_option maxRecDepth 20000 in
set_option maxHeartbeats 2000000 in
theorem k_Str_coder_K2 {N : Nat}  {H : Hp} {r : Int32 × Hp} (hF : F_Str_coder_K2 N  H = some r) : ab_M y_Str_coder { frames := 0, cells := 0, slots := 0, locals := 0 } [.float 2] (hpw H) (po (.returned (some (.int r.1))) r.2) := by
  unfold F_Str_coder_K2 at hF
  refine ab_of2 (lv := [some (.float 2)]) 0 rfl (by decide +kernel) (Nat.le_of_ble_eq_true rfl) ?_
  refine ab_getsC d_Str_coder_0 (k1 54 rfl rfl) ?_
  refine ab_if_eq (tgt := 13) d_Str_coder_3 (by decide) (fun q1 => ?_) (fun q1 => ?_)
  · rw [if_pos q1] at hF
    refine ab_iconst (v := 1) d_Str_coder_13 (by decide) ?_
    exact ab_zret d_Str_coder_14 rfl rfl (Nat.le_refl _) (Nat.le_refl _) (by have hr := Option.some.inj hF; subst hr; exact ⟨rfl, rfl⟩)
  · rw [if_neg q1] at hF
    refine ab_aload_n d_Str_coder_6 rfl rfl rfl ?_
    refine ab_getKc d_Str_coder_7 (by decide) (k4 228 rfl rfl) ?_
    refine ab_goto (tgt := 14) d_Str_coder_10 (by decide) ?_
    exact ab_zret d_Str_coder_14 rfl rfl (Nat.le_refl _) (Nat.le_refl _) (by have hr := Option.some.inj hF; subst hr; exact ⟨rfl, rfl⟩)
def F_Str_length_K2 (N : Nat)  (H : Hp) : Option (Int32 × Hp) :=
    bC (F_Str_coder_K2 N  H) fun v2 H3 =>
    some ((16 : Int32) >>> (v2 &&& 31), H3)
set_option maxRecDepth 20000 in
set_option maxHeartbeats 2000000 in
theorem m_Str_length_K2 {N : Nat}  {H : Hp} {r : Int32 × Hp} (hF : F_Str_length_K2 N  H = some r) : Sa H r.2 := by
  unfold F_Str_length_K2 at hF
  have hm := Sa.rf H
  obtain ⟨v5, H6, z4, hG⟩ := bC_s hF; clear hF
  replace hm : Sa H H6 := hm.tr (m_Str_coder_K2 z4)
  have hr := Option.some.inj hG; subst hr
  exact hm
set_option maxRecDepth 20000 in
set_option maxHeartbeats 2000000 in
theorem k_Str_length_K2 {N : Nat}  {H : Hp} {r : Int32 × Hp} (hF : F_Str_length_K2 N  H = some r) : ab_M y_Str_length { frames := 1, cells := 0, slots := 0, locals := 20 } [.float 2] (hpw H) (po (.returned (some (.int r.1))) r.2) := by
  unfold F_Str_length_K2 at hF
  refine ab_of2 (lv := [some (.float 2)]) 0 rfl (by decide +kernel) (Nat.le_of_ble_eq_true rfl) ?_
  refine ab_aload_n d_Str_length_0 rfl rfl rfl ?_
  refine ab_getKv (k1 := 102) d_Str_length_1 (by decide) (by decide) (k4 227 rfl rfl) ?_
  refine ab_alenK (k0 := 2) (v := 16) d_Str_length_4 (by decide) (by decide) (by decide) ?_
  refine ab_aload_n d_Str_length_5 rfl rfl rfl ?_
  obtain ⟨v2, H3, z1, hG⟩ := bC_s hF; clear hF
  refine hp_callVK_a (k0 := 2) (v := .int v2) (H1 := H3) (As := []) (rest := [.int 16]) d_Str_length_6 (by decide) (k_Str_coder_K2 z1) (ab_mkC s_Str_coder (Nat.le_of_ble_eq_true rfl) (Nat.le_of_ble_eq_true rfl) (Nat.le_refl 0) (Nat.le_refl 0)) (k1 50 rfl rfl) i_Str_coder v_Str_coder rfl (Nat.le_of_ble_eq_true rfl) ?_
  have s_1 : Sa H H3 := (m_Str_coder_K2 z1)
  refine ab_ishr d_Str_length_9 ?_
  exact ab_iret d_Str_length_10 rfl (Nat.le_refl _) (Nat.le_refl _) (by have hr := Option.some.inj hG; subst hr; exact ⟨rfl, rfl⟩)
def B_SL_indexOfChar_K102_7 (N : Nat) (p1 : Int32) (p2 : Int32) (p3 : Int32) : Nat → Int32 → Int32 → Hp → Option (Int32 × Hp)
  | 0, _, _, _ => none
  | n + 1, l4, l5, H =>
    if p3 ≤ l5 then
    some ((-1), H)
    else
    ck (inb l5 16) <|
    bnd (((ab_byt.getD 2 []).getD (l5).toNatClampNeg 0)) fun x4 =>
    if x4 = l4 then
    some (l5, H)
    else
    B_SL_indexOfChar_K102_7 N p1 p2 p3 n l4 (l5 + 1) H
termination_by structural n => n
set_option maxRecDepth 20000 in
set_option maxHeartbeats 2000000 in
theorem mB_SL_indexOfChar_K102_7 {N : Nat} {p1 : Int32} {p2 : Int32} {p3 : Int32} : ∀ (n : Nat) (l4 : Int32) (l5 : Int32) (H : Hp) (r : Int32 × Hp), B_SL_indexOfChar_K102_7 N p1 p2 p3 n l4 l5 H = some r → Sa H r.2 := by
  intro n
  induction n with
  | zero => intro l4 l5 H r hF; rw [B_SL_indexOfChar_K102_7] at hF; cases hF
  | succ n ih =>
    intro l4 l5 H r hF
    rw [B_SL_indexOfChar_K102_7] at hF
    have hm := Sa.rf H
    rcases ite_s hF with ⟨q_1, hG⟩ | ⟨q_1, hG⟩
    · clear hF
      have hr := Option.some.inj hG; subst hr
      exact hm
    · clear hF
      obtain ⟨q7, hF⟩ := ck_s hG; clear hG
      obtain ⟨x8, -, hG⟩ := bnd_g hF; clear hF
      rcases ite_s hG with ⟨q_2, hF⟩ | ⟨q_2, hF⟩
      · clear hG
        have hr := Option.some.inj hF; subst hr
        exact hm
      · clear hG
        exact hm.tr (ih l4 (l5 + 1) H r hF)
set_option maxRecDepth 20000 in
set_option maxHeartbeats 2000000 in
theorem kB_SL_indexOfChar_K102_7 {N : Nat} {p1 : Int32} {p2 : Int32} {p3 : Int32} : ∀ (n : Nat) (l4 : Int32) (l5 : Int32) (H : Hp) (r : Int32 × Hp), B_SL_indexOfChar_K102_7 N p1 p2 p3 n l4 l5 H = some r → ab_V y_SL_indexOfChar { frames := 0, cells := 0, slots := 0, locals := 0 } (po (.returned (some (.int r.1))) r.2) 0 0 0 0 7 [some (.float 102), some (.int p1), some (.int p2), some (.int p3), some (.int l4), some (.int l5)] [] (hpw H) := by
  intro n
  induction n with
  | zero => intro l4 l5 H r hF; rw [B_SL_indexOfChar_K102_7] at hF; cases hF
  | succ n ih =>
    intro l4 l5 H r hF
    rw [B_SL_indexOfChar_K102_7] at hF
    refine ab_iload d_SL_indexOfChar_7 rfl ?_
    refine ab_iload_n d_SL_indexOfChar_9 rfl rfl ?_
    refine ab_icmp_ge (tgt := 31) d_SL_indexOfChar_10 (by decide) (fun q2 => ?_) (fun q2 => ?_)
    · rw [if_pos q2] at hF
      refine ab_iconst (v := (-1)) d_SL_indexOfChar_31 (by decide) ?_
      exact ab_iret d_SL_indexOfChar_32 rfl (Nat.le_refl _) (Nat.le_refl _) (by have hr := Option.some.inj hF; subst hr; exact ⟨rfl, rfl⟩)
    · rw [if_neg q2] at hF
      refine ab_aload_n d_SL_indexOfChar_13 rfl rfl rfl ?_
      refine ab_iload d_SL_indexOfChar_14 rfl ?_
      obtain ⟨q3, hG⟩ := ck_s hF; clear hF
      refine ab_baldK (k0 := 2) d_SL_indexOfChar_16 (by decide) (by decide) q3 rfl ?_
      refine ab_topi (fun x4 ex4 => ?_)
      replace hG := bnd_s ex4 hG
      refine ab_iload d_SL_indexOfChar_17 rfl ?_
      refine ab_icmp_ne (tgt := 25) d_SL_indexOfChar_19 (by decide) (fun q5 => ?_) (fun q5 => ?_)
      · rw [if_neg q5] at hG
        refine ab_iinc (v := l5 + 1) (lv' := [some (.float 102), some (.int p1), some (.int p2), some (.int p3), some (.int l4), some (.int (l5 + 1))]) d_SL_indexOfChar_25 rfl rfl (by decide) rfl ?_
        refine ab_goto (tgt := 7) d_SL_indexOfChar_28 (by decide) ?_
        exact ih l4 (l5 + 1) H r hG
      · rw [if_pos q5] at hG
        refine ab_iload d_SL_indexOfChar_22 rfl ?_
        exact ab_iret d_SL_indexOfChar_24 rfl (Nat.le_refl _) (Nat.le_refl _) (by have hr := Option.some.inj hG; subst hr; exact ⟨rfl, rfl⟩)
def F_SL_indexOfChar_K102 (N : Nat) (p1 : Int32) (p2 : Int32) (p3 : Int32) (H : Hp) : Option (Int32 × Hp) :=
    bnd (((p1 : Int32).toInt8.toInt32)) fun x1 =>
    B_SL_indexOfChar_K102_7 N p1 p2 p3 N x1 p2 H
set_option maxRecDepth 20000 in
set_option maxHeartbeats 2000000 in
theorem m_SL_indexOfChar_K102 {N : Nat} {p1 : Int32} {p2 : Int32} {p3 : Int32} {H : Hp} {r : Int32 × Hp} (hF : F_SL_indexOfChar_K102 N p1 p2 p3 H = some r) : Sa H r.2 := by
  unfold F_SL_indexOfChar_K102 at hF
  have hm := Sa.rf H
  obtain ⟨x10, -, hG⟩ := bnd_g hF; clear hF
  exact hm.tr (mB_SL_indexOfChar_K102_7 N x10 p2 H r hG)
set_option maxRecDepth 20000 in
set_option maxHeartbeats 2000000 in
theorem k_SL_indexOfChar_K102 {N : Nat} {p1 : Int32} {p2 : Int32} {p3 : Int32} {H : Hp} {r : Int32 × Hp} (hF : F_SL_indexOfChar_K102 N p1 p2 p3 H = some r) : ab_M y_SL_indexOfChar { frames := 0, cells := 0, slots := 0, locals := 0 } [.float 102, .int p1, .int p2, .int p3] (hpw H) (po (.returned (some (.int r.1))) r.2) := by
  unfold F_SL_indexOfChar_K102 at hF
  refine ab_of2 (lv := [some (.float 102), some (.int p1), some (.int p2), some (.int p3), none, none]) 2 rfl (by decide +kernel) (Nat.le_of_ble_eq_true rfl) ?_
  refine ab_iload_n d_SL_indexOfChar_0 rfl rfl ?_
  refine ab_i2b d_SL_indexOfChar_1 ?_
  refine ab_topi (fun x1 ex1 => ?_)
  replace hF := bnd_s ex1 hF
  refine ab_istore (lv' := [some (.float 102), some (.int p1), some (.int p2), some (.int p3), some (.int x1), none]) d_SL_indexOfChar_2 (by decide) rfl ?_
  refine ab_iload_n d_SL_indexOfChar_4 rfl rfl ?_
  refine ab_istore (lv' := [some (.float 102), some (.int p1), some (.int p2), some (.int p3), some (.int x1), some (.int p2)]) d_SL_indexOfChar_5 (by decide) rfl ?_
  exact kB_SL_indexOfChar_K102_7 N x1 p2 H r hF
def F_SL_indexOf_K102 (N : Nat) (p1 : Int32) (l2 : Int32) (l3 : Int32) (H : Hp) : Option (Int32 × Hp) :=
    bC (F_SL_canEncode N p1 H) fun v2 H3 =>
    if v2 = (0 : Int32) then
    some ((-1), H3)
    else
    bC (F_Math_max N l2 (0 : Int32) H3) fun v6 H7 =>
    bC (F_Math_min N l3 (16 : Int32) H7) fun v9 H10 =>
    if v6 < v9 then
    bC (F_SL_indexOfChar_K102 N p1 v6 v9 H10) fun v13 H14 =>
    some (v13, H14)
    else
    some ((-1), H10)
set_option maxRecDepth 20000 in
set_option maxHeartbeats 2000000 in
theorem m_SL_indexOf_K102 {N : Nat} {p1 : Int32} {l2 : Int32} {l3 : Int32} {H : Hp} {r : Int32 × Hp} (hF : F_SL_indexOf_K102 N p1 l2 l3 H = some r) : Sa H r.2 := by
  unfold F_SL_indexOf_K102 at hF
  have hm := Sa.rf H
  obtain ⟨v16, H17, z15, hG⟩ := bC_s hF; clear hF
  replace hm : Sa H H17 := hm.tr (m_SL_canEncode z15)
  rcases ite_s hG with ⟨q_6, hF⟩ | ⟨q_6, hF⟩
  · clear hG
    have hr := Option.some.inj hF; subst hr
    exact hm
  · clear hG
    obtain ⟨v20, H21, z19, hG⟩ := bC_s hF; clear hF
    replace hm : Sa H H21 := hm.tr (m_Math_max z19)
    obtain ⟨v23, H24, z22, hF⟩ := bC_s hG; clear hG
    replace hm : Sa H H24 := hm.tr (m_Math_min z22)
    rcases ite_s hF with ⟨q_9, hG⟩ | ⟨q_9, hG⟩
    · clear hF
      obtain ⟨v27, H28, z26, hF⟩ := bC_s hG; clear hG
      replace hm : Sa H H28 := hm.tr (m_SL_indexOfChar_K102 z26)
      have hr := Option.some.inj hF; subst hr
      exact hm
    · clear hF
      have hr := Option.some.inj hG; subst hr
      exact hm
set_option maxRecDepth 20000 in
set_option maxHeartbeats 2000000 in
theorem k_SL_indexOf_K102 {N : Nat} {p1 : Int32} {l2 : Int32} {l3 : Int32} {H : Hp} {r : Int32 × Hp} (hF : F_SL_indexOf_K102 N p1 l2 l3 H = some r) : ab_M y_SL_indexOf { frames := 1, cells := 0, slots := 0, locals := 25 } [.float 102, .int p1, .int l2, .int l3] (hpw H) (po (.returned (some (.int r.1))) r.2) := by
  unfold F_SL_indexOf_K102 at hF
  refine ab_of2 (lv := [some (.float 102), some (.int p1), some (.int l2), some (.int l3)]) 0 rfl (by decide +kernel) (Nat.le_of_ble_eq_true rfl) ?_
  refine ab_iload_n d_SL_indexOf_0 rfl rfl ?_
  obtain ⟨v2, H3, z1, hG⟩ := bC_s hF; clear hF
  refine hp_callS_a (v := .int v2) (H1 := H3) (As := [.int p1]) (rest := []) d_SL_indexOf_1 (k_SL_canEncode z1) (ab_mkC s_SL_canEncode (Nat.le_of_ble_eq_true rfl) (Nat.le_of_ble_eq_true rfl) (Nat.le_refl 0) (Nat.le_refl 0)) (k4 46 rfl rfl) t_SL_canEncode rfl (Nat.le_of_ble_eq_true rfl) ?_
  have s_1 : Sa H H3 := (m_SL_canEncode z1)
  refine ab_if_ne (tgt := 9) d_SL_indexOf_4 (by decide) (fun q4 => ?_) (fun q4 => ?_)
  · rw [if_neg q4] at hG
    refine ab_iload_n d_SL_indexOf_9 rfl rfl ?_
    refine ab_iconst (v := 0) d_SL_indexOf_10 (by decide) ?_
    obtain ⟨v6, H7, z5, hF⟩ := bC_s hG; clear hG
    refine hp_callS_a (v := .int v6) (H1 := H7) (As := [.int l2, .int 0]) (rest := []) d_SL_indexOf_11 (k_Math_max z5) (ab_mkC s_Math_max (Nat.le_of_ble_eq_true rfl) (Nat.le_of_ble_eq_true rfl) (Nat.le_refl 0) (Nat.le_refl 0)) (k4 49 rfl rfl) t_Math_max rfl (Nat.le_of_ble_eq_true rfl) ?_
    have s_2 : Sa H H7 := (s_1).tr (m_Math_max z5)
    refine ab_istore_n (lv' := [some (.float 102), some (.int p1), some (.int v6), some (.int l3)]) d_SL_indexOf_14 rfl (by decide) rfl ?_
    refine ab_iload_n d_SL_indexOf_15 rfl rfl ?_
    refine ab_aload_n d_SL_indexOf_16 rfl rfl rfl ?_
    refine ab_alenK (k0 := 2) (v := 16) d_SL_indexOf_17 (by decide) (by decide) (by decide) ?_
    obtain ⟨v9, H10, z8, hG⟩ := bC_s hF; clear hF
    refine hp_callS_a (v := .int v9) (H1 := H10) (As := [.int l3, .int 16]) (rest := []) d_SL_indexOf_18 (k_Math_min z8) (ab_mkC s_Math_min (Nat.le_of_ble_eq_true rfl) (Nat.le_of_ble_eq_true rfl) (Nat.le_refl 0) (Nat.le_refl 0)) (k4 50 rfl rfl) t_Math_min rfl (Nat.le_of_ble_eq_true rfl) ?_
    have s_3 : Sa H H10 := (s_2).tr (m_Math_min z8)
    refine ab_istore_n (lv' := [some (.float 102), some (.int p1), some (.int v6), some (.int v9)]) d_SL_indexOf_21 rfl (by decide) rfl ?_
    refine ab_iload_n d_SL_indexOf_22 rfl rfl ?_
    refine ab_iload_n d_SL_indexOf_23 rfl rfl ?_
    refine ab_icmp_lt (tgt := 29) d_SL_indexOf_24 (by decide) (fun q11 => ?_) (fun q11 => ?_)
    · rw [if_pos q11] at hG
      refine ab_aload_n d_SL_indexOf_29 rfl rfl rfl ?_
      refine ab_iload_n d_SL_indexOf_30 rfl rfl ?_
      refine ab_iload_n d_SL_indexOf_31 rfl rfl ?_
      refine ab_iload_n d_SL_indexOf_32 rfl rfl ?_
      obtain ⟨v13, H14, z12, hF⟩ := bC_s hG; clear hG
      refine hp_callS_a (v := .int v13) (H1 := H14) (As := [.float 102, .int p1, .int v6, .int v9]) (rest := []) d_SL_indexOf_33 (k_SL_indexOfChar_K102 z12) (ab_mkC s_SL_indexOfChar (Nat.le_of_ble_eq_true rfl) (Nat.le_of_ble_eq_true rfl) (Nat.le_refl 0) (Nat.le_refl 0)) (k4 51 rfl rfl) t_SL_indexOfChar rfl (Nat.le_of_ble_eq_true rfl) ?_
      have s_4 : Sa H H14 := (s_3).tr (m_SL_indexOfChar_K102 z12)
      exact ab_iret d_SL_indexOf_36 rfl (Nat.le_refl _) (Nat.le_refl _) (by have hr := Option.some.inj hF; subst hr; exact ⟨rfl, rfl⟩)
    · rw [if_neg q11] at hG
      refine ab_iconst (v := (-1)) d_SL_indexOf_27 (by decide) ?_
      exact ab_iret d_SL_indexOf_28 rfl (Nat.le_refl _) (Nat.le_refl _) (by have hr := Option.some.inj hG; subst hr; exact ⟨rfl, rfl⟩)
  · rw [if_pos q4] at hG
    refine ab_iconst (v := (-1)) d_SL_indexOf_7 (by decide) ?_
    exact ab_iret d_SL_indexOf_8 rfl (Nat.le_refl _) (Nat.le_refl _) (by have hr := Option.some.inj hG; subst hr; exact ⟨rfl, rfl⟩)
def F_Str_indexOf2_K2 (N : Nat) (p1 : Int32) (p2 : Int32) (H : Hp) : Option (Int32 × Hp) :=
    bC (F_Str_isLatin1_K2 N  H) fun v2 H3 =>
    if v2 = (0 : Int32) then
    bC (F_Str_length_K2 N  H3) fun v6 H7 =>
    none
    else
    bC (F_Str_length_K2 N  H3) fun v9 H10 =>
    bC (F_SL_indexOf_K102 N p1 p2 v9 H10) fun v12 H13 =>
    some (v12, H13)
set_option maxRecDepth 20000 in
set_option maxHeartbeats 2000000 in
theorem m_Str_indexOf2_K2 {N : Nat} {p1 : Int32} {p2 : Int32} {H : Hp} {r : Int32 × Hp} (hF : F_Str_indexOf2_K2 N p1 p2 H = some r) : Sa H r.2 := by
  unfold F_Str_indexOf2_K2 at hF
  have hm := Sa.rf H
  obtain ⟨v15, H16, z14, hG⟩ := bC_s hF; clear hF
  replace hm : Sa H H16 := hm.tr (m_Str_isLatin1_K2 z14)
  rcases ite_s hG with ⟨q_6, hF⟩ | ⟨q_6, hF⟩
  · clear hG
    obtain ⟨v19, H20, z18, hG⟩ := bC_s hF; clear hF
    replace hm : Sa H H20 := hm.tr (m_Str_length_K2 z18)
    cases hG
  · clear hG
    obtain ⟨v22, H23, z21, hG⟩ := bC_s hF; clear hF
    replace hm : Sa H H23 := hm.tr (m_Str_length_K2 z21)
    obtain ⟨v25, H26, z24, hF⟩ := bC_s hG; clear hG
    replace hm : Sa H H26 := hm.tr (m_SL_indexOf_K102 z24)
    have hr := Option.some.inj hF; subst hr
    exact hm
set_option maxRecDepth 20000 in
set_option maxHeartbeats 2000000 in
theorem k_Str_indexOf2_K2 {N : Nat} {p1 : Int32} {p2 : Int32} {H : Hp} {r : Int32 × Hp} (hF : F_Str_indexOf2_K2 N p1 p2 H = some r) : ab_M y_Str_indexOf2 { frames := 2, cells := 0, slots := 0, locals := 48 } [.float 2, .int p1, .int p2] (hpw H) (po (.returned (some (.int r.1))) r.2) := by
  unfold F_Str_indexOf2_K2 at hF
  refine ab_of2 (lv := [some (.float 2), some (.int p1), some (.int p2)]) 0 rfl (by decide +kernel) (Nat.le_of_ble_eq_true rfl) ?_
  refine ab_aload_n d_Str_indexOf2_0 rfl rfl rfl ?_
  obtain ⟨v2, H3, z1, hG⟩ := bC_s hF; clear hF
  refine hp_callVK_a (k0 := 2) (v := .int v2) (H1 := H3) (As := []) (rest := []) d_Str_indexOf2_1 (by decide) (k_Str_isLatin1_K2 z1) (ab_mkC s_Str_isLatin1 (Nat.le_of_ble_eq_true rfl) (Nat.le_of_ble_eq_true rfl) (Nat.le_refl 0) (Nat.le_refl 0)) (k1 60 rfl rfl) i_Str_isLatin1 v_Str_isLatin1 rfl (Nat.le_of_ble_eq_true rfl) ?_
  have s_1 : Sa H H3 := (m_Str_isLatin1_K2 z1)
  refine ab_if_eq (tgt := 23) d_Str_indexOf2_4 (by decide) (fun q4 => ?_) (fun q4 => ?_)
  · rw [if_pos q4] at hG
    refine ab_aload_n d_Str_indexOf2_23 rfl rfl rfl ?_
    refine ab_getKv (k1 := 102) d_Str_indexOf2_24 (by decide) (by decide) (k4 227 rfl rfl) ?_
    refine ab_iload_n d_Str_indexOf2_27 rfl rfl ?_
    refine ab_iload_n d_Str_indexOf2_28 rfl rfl ?_
    refine ab_aload_n d_Str_indexOf2_29 rfl rfl rfl ?_
    obtain ⟨v6, H7, z5, hF⟩ := bC_s hG; clear hG
    refine hp_callVK_a (k0 := 2) (v := .int v6) (H1 := H7) (As := []) (rest := [.int p2, .int p1, .float 102]) d_Str_indexOf2_30 (by decide) (k_Str_length_K2 z5) (ab_mkC s_Str_length (Nat.le_of_ble_eq_true rfl) (Nat.le_of_ble_eq_true rfl) (Nat.le_refl 0) (Nat.le_refl 0)) (k4 42 rfl rfl) i_Str_length v_Str_length rfl (Nat.le_of_ble_eq_true rfl) ?_
    have s_2 : Sa H H7 := (s_1).tr (m_Str_length_K2 z5)
    cases hF
  · rw [if_neg q4] at hG
    refine ab_aload_n d_Str_indexOf2_7 rfl rfl rfl ?_
    refine ab_getKv (k1 := 102) d_Str_indexOf2_8 (by decide) (by decide) (k4 227 rfl rfl) ?_
    refine ab_iload_n d_Str_indexOf2_11 rfl rfl ?_
    refine ab_iload_n d_Str_indexOf2_12 rfl rfl ?_
    refine ab_aload_n d_Str_indexOf2_13 rfl rfl rfl ?_
    obtain ⟨v9, H10, z8, hF⟩ := bC_s hG; clear hG
    refine hp_callVK_a (k0 := 2) (v := .int v9) (H1 := H10) (As := []) (rest := [.int p2, .int p1, .float 102]) d_Str_indexOf2_14 (by decide) (k_Str_length_K2 z8) (ab_mkC s_Str_length (Nat.le_of_ble_eq_true rfl) (Nat.le_of_ble_eq_true rfl) (Nat.le_refl 0) (Nat.le_refl 0)) (k4 42 rfl rfl) i_Str_length v_Str_length rfl (Nat.le_of_ble_eq_true rfl) ?_
    have s_3 : Sa H H10 := (s_1).tr (m_Str_length_K2 z8)
    obtain ⟨v12, H13, z11, hG⟩ := bC_s hF; clear hF
    refine hp_callS_a (v := .int v12) (H1 := H13) (As := [.float 102, .int p1, .int p2, .int v9]) (rest := []) d_Str_indexOf2_17 (k_SL_indexOf_K102 z11) (ab_mkC s_SL_indexOf (Nat.le_of_ble_eq_true rfl) (Nat.le_of_ble_eq_true rfl) (Nat.le_refl 0) (Nat.le_refl 0)) (k4 43 rfl rfl) t_SL_indexOf rfl (Nat.le_of_ble_eq_true rfl) ?_
    have s_4 : Sa H H13 := (s_3).tr (m_SL_indexOf_K102 z11)
    refine ab_goto (tgt := 36) d_Str_indexOf2_20 (by decide) ?_
    exact ab_iret d_Str_indexOf2_36 rfl (Nat.le_refl _) (Nat.le_refl _) (by have hr := Option.some.inj hG; subst hr; exact ⟨rfl, rfl⟩)
def F_Str_indexOf_K2 (N : Nat) (p1 : Int32) (H : Hp) : Option (Int32 × Hp) :=
    bC (F_Str_indexOf2_K2 N p1 (0 : Int32) H) fun v2 H3 =>
    some (v2, H3)
set_option maxRecDepth 20000 in
set_option maxHeartbeats 2000000 in
theorem m_Str_indexOf_K2 {N : Nat} {p1 : Int32} {H : Hp} {r : Int32 × Hp} (hF : F_Str_indexOf_K2 N p1 H = some r) : Sa H r.2 := by
  unfold F_Str_indexOf_K2 at hF
  have hm := Sa.rf H
  obtain ⟨v5, H6, z4, hG⟩ := bC_s hF; clear hF
  replace hm : Sa H H6 := hm.tr (m_Str_indexOf2_K2 z4)
  have hr := Option.some.inj hG; subst hr
  exact hm
set_option maxRecDepth 20000 in
set_option maxHeartbeats 2000000 in
theorem k_Str_indexOf_K2 {N : Nat} {p1 : Int32} {H : Hp} {r : Int32 × Hp} (hF : F_Str_indexOf_K2 N p1 H = some r) : ab_M y_Str_indexOf { frames := 3, cells := 0, slots := 0, locals := 70 } [.float 2, .int p1] (hpw H) (po (.returned (some (.int r.1))) r.2) := by
  unfold F_Str_indexOf_K2 at hF
  refine ab_of2 (lv := [some (.float 2), some (.int p1)]) 0 rfl (by decide +kernel) (Nat.le_of_ble_eq_true rfl) ?_
  refine ab_aload_n d_Str_indexOf_0 rfl rfl rfl ?_
  refine ab_iload_n d_Str_indexOf_1 rfl rfl ?_
  refine ab_iconst (v := 0) d_Str_indexOf_2 (by decide) ?_
  obtain ⟨v2, H3, z1, hG⟩ := bC_s hF; clear hF
  refine hp_callVK_a (k0 := 2) (v := .int v2) (H1 := H3) (As := [.int p1, .int 0]) (rest := []) d_Str_indexOf_3 (by decide) (k_Str_indexOf2_K2 z1) (ab_mkC s_Str_indexOf2 (Nat.le_of_ble_eq_true rfl) (Nat.le_of_ble_eq_true rfl) (Nat.le_refl 0) (Nat.le_refl 0)) (k4 38 rfl rfl) i_Str_indexOf2 v_Str_indexOf2 rfl (Nat.le_of_ble_eq_true rfl) ?_
  have s_1 : Sa H H3 := (m_Str_indexOf2_K2 z1)
  exact ab_iret d_Str_indexOf_6 rfl (Nat.le_refl _) (Nat.le_refl _) (by have hr := Option.some.inj hG; subst hr; exact ⟨rfl, rfl⟩)
def B_Lexer_behindSign_167 (N : Nat) (p0 : Nat) (p1 : Int32) (l4 : Int32) (H : Hp) : Option (Int32 × Hp) :=
    ck (H.sh[p0]? = some (1, 0)) <|
    bC (F_Lexer_note N p0 l4 p1 (0 : Int32) (0 : Int32) H) fun v15 H16 =>
    some (p1 + (2 : Int32), H16)
set_option maxRecDepth 20000 in
set_option maxHeartbeats 2000000 in
theorem mB_Lexer_behindSign_167 {N : Nat} {p0 : Nat} {p1 : Int32} {l4 : Int32} {H : Hp} {r : Int32 × Hp} (hF : B_Lexer_behindSign_167 N p0 p1 l4 H = some r) : Sa H r.2 := by
  unfold B_Lexer_behindSign_167 at hF
  have hm := Sa.rf H
  obtain ⟨q17, hG⟩ := ck_s hF; clear hF
  obtain ⟨v19, H20, z18, hF⟩ := bC_s hG; clear hG
  replace hm : Sa H H20 := hm.tr (m_Lexer_note z18)
  have hr := Option.some.inj hF; subst hr
  exact hm
set_option maxRecDepth 20000 in
set_option maxHeartbeats 2000000 in
theorem kB_Lexer_behindSign_167 {N : Nat} {p0 : Nat} {p1 : Int32} {l4 : Int32} {H : Hp} {r : Int32 × Hp} (hF : B_Lexer_behindSign_167 N p0 p1 l4 H = some r) : ab_V y_Lexer_behindSign { frames := 4, cells := 0, slots := 0, locals := 91 } (po (.returned (some (.int r.1))) r.2) 0 0 0 0 167 [some (.ref p0), some (.int p1), none, none, some (.int l4)] [] (hpw H) := by
  unfold B_Lexer_behindSign_167 at hF
  refine ab_aload_n d_Lexer_behindSign_167 rfl rfl rfl ?_
  refine ab_iload d_Lexer_behindSign_168 rfl ?_
  refine ab_iload_n d_Lexer_behindSign_170 rfl rfl ?_
  refine ab_iconst (v := 0) d_Lexer_behindSign_171 (by decide) ?_
  refine ab_iconst (v := 0) d_Lexer_behindSign_172 (by decide) ?_
  obtain ⟨q13, hG⟩ := ck_s hF; clear hF
  obtain ⟨v15, H16, z14, hF⟩ := bC_s hG; clear hG
  refine hp_callV_v (H1 := H16) (As := [.int l4, .int p1, .int 0, .int 0]) (rest := []) d_Lexer_behindSign_173 (k_Lexer_note z14) (ab_mkC s_Lexer_note (Nat.le_of_ble_eq_true rfl) (Nat.le_of_ble_eq_true rfl) (Nat.le_refl 0) (Nat.le_refl 0)) (k4 8 rfl rfl) i_Lexer_note v_Lexer_note q13 (by decide) rfl rfl (Nat.le_of_ble_eq_true rfl) ?_
  have s_3 : Sa H H16 := (m_Lexer_note z14)
  refine ab_iload_n d_Lexer_behindSign_176 rfl rfl ?_
  refine ab_iconst (v := 2) d_Lexer_behindSign_177 (by decide) ?_
  refine ab_iadd d_Lexer_behindSign_178 ?_
  exact ab_iret d_Lexer_behindSign_179 rfl (Nat.le_refl _) (Nat.le_refl _) (by have hr := Option.some.inj hF; subst hr; exact ⟨rfl, rfl⟩)
def B_Lexer_behindSign_136 (N : Nat) (p0 : Nat) (p1 : Int32) (l2 : Int32) (l4 : Int32) (H : Hp) : Option (Int32 × Hp) :=
    bC (F_Str_indexOf_K2 N (((l2 : Int32).toUInt32 % 65536).toInt32) H) fun v10 H11 =>
    if v10 < (0 : Int32) then
    B_Lexer_behindSign_167 N p0 p1 l4 H11
    else
    bC (F_Str_indexOf_K2 N (((l2 : Int32).toUInt32 % 65536).toInt32) H11) fun v22 H23 =>
    ck (H23.sh[p0]? = some (1, 0)) <|
    bC (F_Lexer_note N p0 ((10 : Int32) + v22) p1 (0 : Int32) (0 : Int32) H23) fun v26 H27 =>
    some (p1 + (1 : Int32), H27)
set_option maxRecDepth 20000 in
set_option maxHeartbeats 2000000 in
theorem mB_Lexer_behindSign_136 {N : Nat} {p0 : Nat} {p1 : Int32} {l2 : Int32} {l4 : Int32} {H : Hp} {r : Int32 × Hp} (hF : B_Lexer_behindSign_136 N p0 p1 l2 l4 H = some r) : Sa H r.2 := by
  unfold B_Lexer_behindSign_136 at hF
  have hm := Sa.rf H
  obtain ⟨v29, H30, z28, hG⟩ := bC_s hF; clear hF
  replace hm : Sa H H30 := hm.tr (m_Str_indexOf_K2 z28)
  rcases ite_s hG with ⟨q_8, hF⟩ | ⟨q_8, hF⟩
  · clear hG
    exact hm.tr (mB_Lexer_behindSign_167 hF)
  · clear hG
    obtain ⟨v33, H34, z32, hG⟩ := bC_s hF; clear hF
    replace hm : Sa H H34 := hm.tr (m_Str_indexOf_K2 z32)
    obtain ⟨q35, hF⟩ := ck_s hG; clear hG
    obtain ⟨v37, H38, z36, hG⟩ := bC_s hF; clear hF
    replace hm : Sa H H38 := hm.tr (m_Lexer_note z36)
    have hr := Option.some.inj hG; subst hr
    exact hm
set_option maxRecDepth 20000 in
set_option maxHeartbeats 2000000 in
theorem kB_Lexer_behindSign_136 {N : Nat} {p0 : Nat} {p1 : Int32} {l2 : Int32} {l4 : Int32} {H : Hp} {r : Int32 × Hp} (hF : B_Lexer_behindSign_136 N p0 p1 l2 l4 H = some r) : ab_V y_Lexer_behindSign { frames := 4, cells := 0, slots := 0, locals := 91 } (po (.returned (some (.int r.1))) r.2) 0 0 0 0 136 [some (.ref p0), some (.int p1), some (.int l2), none, some (.int l4)] [] (hpw H) := by
  unfold B_Lexer_behindSign_136 at hF
  refine ab_ldcS (k0 := 2) d_Lexer_behindSign_136 (List.mem_of_getElem? (i := 2) rfl) rfl rfl rfl ?_
  refine ab_iload_n d_Lexer_behindSign_138 rfl rfl ?_
  refine ab_i2c d_Lexer_behindSign_139 ?_
  obtain ⟨v10, H11, z9, hG⟩ := bC_s hF; clear hF
  refine hp_callVK_a (k0 := 2) (v := .int v10) (H1 := H11) (As := [.int (((l2 : Int32).toUInt32 % 65536).toInt32)]) (rest := []) d_Lexer_behindSign_140 (by decide) (k_Str_indexOf_K2 z9) (ab_mkC s_Str_indexOf (Nat.le_of_ble_eq_true rfl) (Nat.le_of_ble_eq_true rfl) (Nat.le_refl 0) (Nat.le_refl 0)) (k4 34 rfl rfl) i_Str_indexOf v_Str_indexOf rfl (Nat.le_of_ble_eq_true rfl) ?_
  have s_2 : Sa H H11 := (m_Str_indexOf_K2 z9)
  refine ab_if_lt (tgt := 167) d_Lexer_behindSign_143 (by decide) (fun q12 => ?_) (fun q12 => ?_)
  · rw [if_pos q12] at hG
    refine ab_le (lv' := [some (.ref p0), some (.int p1), none, none, some (.int l4)]) ⟨rfl, ⟨rfl, ⟨rfl, trivial⟩⟩⟩ ?_
    exact kB_Lexer_behindSign_167 hG
  · rw [if_neg q12] at hG
    refine ab_aload_n d_Lexer_behindSign_146 rfl rfl rfl ?_
    refine ab_bipush (v := 10) d_Lexer_behindSign_147 (by decide) ?_
    refine ab_ldcS (k0 := 2) d_Lexer_behindSign_149 (List.mem_of_getElem? (i := 2) rfl) rfl rfl rfl ?_
    refine ab_iload_n d_Lexer_behindSign_151 rfl rfl ?_
    refine ab_i2c d_Lexer_behindSign_152 ?_
    obtain ⟨v22, H23, z21, hF⟩ := bC_s hG; clear hG
    refine hp_callVK_a (k0 := 2) (v := .int v22) (H1 := H23) (As := [.int (((l2 : Int32).toUInt32 % 65536).toInt32)]) (rest := [.int 10, .ref p0]) d_Lexer_behindSign_153 (by decide) (k_Str_indexOf_K2 z21) (ab_mkC s_Str_indexOf (Nat.le_of_ble_eq_true rfl) (Nat.le_of_ble_eq_true rfl) (Nat.le_refl 0) (Nat.le_refl 0)) (k4 34 rfl rfl) i_Str_indexOf v_Str_indexOf rfl (Nat.le_of_ble_eq_true rfl) ?_
    have s_5 : Sa H H23 := (s_2).tr (m_Str_indexOf_K2 z21)
    refine ab_iadd d_Lexer_behindSign_156 ?_
    refine ab_iload_n d_Lexer_behindSign_157 rfl rfl ?_
    refine ab_iconst (v := 0) d_Lexer_behindSign_158 (by decide) ?_
    refine ab_iconst (v := 0) d_Lexer_behindSign_159 (by decide) ?_
    obtain ⟨q24, hG⟩ := ck_s hF; clear hF
    rw [(s_5).1] at q24
    obtain ⟨v26, H27, z25, hF⟩ := bC_s hG; clear hG
    refine hp_callV_v (H1 := H27) (As := [.int ((10 : Int32) + v22), .int p1, .int 0, .int 0]) (rest := []) d_Lexer_behindSign_160 (k_Lexer_note z25) (ab_mkC s_Lexer_note (Nat.le_of_ble_eq_true rfl) (Nat.le_of_ble_eq_true rfl) (Nat.le_refl 0) (Nat.le_refl 0)) (k4 8 rfl rfl) i_Lexer_note v_Lexer_note (by rw [(s_5).1]; exact q24) (by decide) rfl rfl (Nat.le_of_ble_eq_true rfl) ?_
    have s_6 : Sa H H27 := (s_5).tr (m_Lexer_note z25)
    refine ab_iload_n d_Lexer_behindSign_163 rfl rfl ?_
    refine ab_iconst (v := 1) d_Lexer_behindSign_164 (by decide) ?_
    refine ab_iadd d_Lexer_behindSign_165 ?_
    exact ab_iret d_Lexer_behindSign_166 rfl (Nat.le_refl _) (Nat.le_refl _) (by have hr := Option.some.inj hF; subst hr; exact ⟨rfl, rfl⟩)
def B_Lexer_behindSign_131 (N : Nat) (p0 : Nat) (p1 : Int32) (w0 : Int32) (H : Hp) : Option (Int32 × Hp) :=
    B_Lexer_behindSign_167 N p0 p1 w0 H
set_option maxRecDepth 20000 in
set_option maxHeartbeats 2000000 in
theorem mB_Lexer_behindSign_131 {N : Nat} {p0 : Nat} {p1 : Int32} {w0 : Int32} {H : Hp} {r : Int32 × Hp} (hF : B_Lexer_behindSign_131 N p0 p1 w0 H = some r) : Sa H r.2 := by
  unfold B_Lexer_behindSign_131 at hF
  have hm := Sa.rf H
  exact hm.tr (mB_Lexer_behindSign_167 hF)
set_option maxRecDepth 20000 in
set_option maxHeartbeats 2000000 in
theorem kB_Lexer_behindSign_131 {N : Nat} {p0 : Nat} {p1 : Int32} {w0 : Int32} {H : Hp} {r : Int32 × Hp} (hF : B_Lexer_behindSign_131 N p0 p1 w0 H = some r) : ab_V y_Lexer_behindSign { frames := 4, cells := 0, slots := 0, locals := 91 } (po (.returned (some (.int r.1))) r.2) 0 0 0 0 131 [some (.ref p0), some (.int p1), none, none, none] [.int w0] (hpw H) := by
  unfold B_Lexer_behindSign_131 at hF
  refine ab_istore (lv' := [some (.ref p0), some (.int p1), none, none, some (.int w0)]) d_Lexer_behindSign_131 (by decide) rfl ?_
  refine ab_goto (tgt := 167) d_Lexer_behindSign_133 (by decide) ?_
  exact kB_Lexer_behindSign_167 hF
def B_Lexer_behindSign_118 (N : Nat) (p0 : Nat) (p1 : Int32) (l2 : Int32) (H : Hp) : Option (Int32 × Hp) :=
    if l2 = (38 : Int32) then
    B_Lexer_behindSign_131 N p0 p1 30 H
    else
    B_Lexer_behindSign_131 N p0 p1 31 H
set_option maxRecDepth 20000 in
set_option maxHeartbeats 2000000 in
theorem mB_Lexer_behindSign_118 {N : Nat} {p0 : Nat} {p1 : Int32} {l2 : Int32} {H : Hp} {r : Int32 × Hp} (hF : B_Lexer_behindSign_118 N p0 p1 l2 H = some r) : Sa H r.2 := by
  unfold B_Lexer_behindSign_118 at hF
  have hm := Sa.rf H
  rcases ite_s hF with ⟨q_11, hG⟩ | ⟨q_11, hG⟩
  · clear hF
    exact hm.tr (mB_Lexer_behindSign_131 hG)
  · clear hF
    exact hm.tr (mB_Lexer_behindSign_131 hG)
set_option maxRecDepth 20000 in
set_option maxHeartbeats 2000000 in
theorem kB_Lexer_behindSign_118 {N : Nat} {p0 : Nat} {p1 : Int32} {l2 : Int32} {H : Hp} {r : Int32 × Hp} (hF : B_Lexer_behindSign_118 N p0 p1 l2 H = some r) : ab_V y_Lexer_behindSign { frames := 4, cells := 0, slots := 0, locals := 91 } (po (.returned (some (.int r.1))) r.2) 0 0 0 0 118 [some (.ref p0), some (.int p1), some (.int l2), none, none] [] (hpw H) := by
  unfold B_Lexer_behindSign_118 at hF
  refine ab_iload_n d_Lexer_behindSign_118 rfl rfl ?_
  refine ab_bipush (v := 38) d_Lexer_behindSign_119 (by decide) ?_
  refine ab_icmp_ne (tgt := 129) d_Lexer_behindSign_121 (by decide) (fun q40 => ?_) (fun q40 => ?_)
  · rw [if_neg q40] at hF
    refine ab_bipush (v := 31) d_Lexer_behindSign_129 (by decide) ?_
    refine ab_le (lv' := [some (.ref p0), some (.int p1), none, none, none]) ⟨rfl, ⟨rfl, trivial⟩⟩ ?_
    exact kB_Lexer_behindSign_131 hF
  · rw [if_pos q40] at hF
    refine ab_bipush (v := 30) d_Lexer_behindSign_124 (by decide) ?_
    refine ab_goto (tgt := 131) d_Lexer_behindSign_126 (by decide) ?_
    refine ab_le (lv' := [some (.ref p0), some (.int p1), none, none, none]) ⟨rfl, ⟨rfl, trivial⟩⟩ ?_
    exact kB_Lexer_behindSign_131 hF
def B_Lexer_behindSign_101 (N : Nat) (p0 : Nat) (p1 : Int32) (l2 : Int32) (l3 : Int32) (l4 : Int32) (H : Hp) : Option (Int32 × Hp) :=
    if l3 = l2 then
    if l2 = (38 : Int32) then
    B_Lexer_behindSign_118 N p0 p1 l2 H
    else
    if l2 = (124 : Int32) then
    B_Lexer_behindSign_118 N p0 p1 l2 H
    else
    B_Lexer_behindSign_136 N p0 p1 l2 l4 H
    else
    B_Lexer_behindSign_136 N p0 p1 l2 l4 H
set_option maxRecDepth 20000 in
set_option maxHeartbeats 2000000 in
theorem mB_Lexer_behindSign_101 {N : Nat} {p0 : Nat} {p1 : Int32} {l2 : Int32} {l3 : Int32} {l4 : Int32} {H : Hp} {r : Int32 × Hp} (hF : B_Lexer_behindSign_101 N p0 p1 l2 l3 l4 H = some r) : Sa H r.2 := by
  unfold B_Lexer_behindSign_101 at hF
  have hm := Sa.rf H
  rcases ite_s hF with ⟨q_12, hG⟩ | ⟨q_12, hG⟩
  · clear hF
    rcases ite_s hG with ⟨q_13, hF⟩ | ⟨q_13, hF⟩
    · clear hG
      exact hm.tr (mB_Lexer_behindSign_118 hF)
    · clear hG
      rcases ite_s hF with ⟨q_14, hG⟩ | ⟨q_14, hG⟩
      · clear hF
        exact hm.tr (mB_Lexer_behindSign_118 hG)
      · clear hF
        exact hm.tr (mB_Lexer_behindSign_136 hG)
  · clear hF
    exact hm.tr (mB_Lexer_behindSign_136 hG)
set_option maxRecDepth 20000 in
set_option maxHeartbeats 2000000 in
theorem kB_Lexer_behindSign_101 {N : Nat} {p0 : Nat} {p1 : Int32} {l2 : Int32} {l3 : Int32} {l4 : Int32} {H : Hp} {r : Int32 × Hp} (hF : B_Lexer_behindSign_101 N p0 p1 l2 l3 l4 H = some r) : ab_V y_Lexer_behindSign { frames := 4, cells := 0, slots := 0, locals := 91 } (po (.returned (some (.int r.1))) r.2) 0 0 0 0 101 [some (.ref p0), some (.int p1), some (.int l2), some (.int l3), some (.int l4)] [] (hpw H) := by
  unfold B_Lexer_behindSign_101 at hF
  refine ab_iload_n d_Lexer_behindSign_101 rfl rfl ?_
  refine ab_iload_n d_Lexer_behindSign_102 rfl rfl ?_
  refine ab_icmp_ne (tgt := 136) d_Lexer_behindSign_103 (by decide) (fun q8 => ?_) (fun q8 => ?_)
  · rw [if_neg q8] at hF
    refine ab_le (lv' := [some (.ref p0), some (.int p1), some (.int l2), none, some (.int l4)]) ⟨rfl, ⟨rfl, ⟨rfl, ⟨rfl, trivial⟩⟩⟩⟩ ?_
    exact kB_Lexer_behindSign_136 hF
  · rw [if_pos q8] at hF
    refine ab_iload_n d_Lexer_behindSign_106 rfl rfl ?_
    refine ab_bipush (v := 38) d_Lexer_behindSign_107 (by decide) ?_
    refine ab_icmp_eq (tgt := 118) d_Lexer_behindSign_109 (by decide) (fun q39 => ?_) (fun q39 => ?_)
    · rw [if_pos q39] at hF
      refine ab_le (lv' := [some (.ref p0), some (.int p1), some (.int l2), none, none]) ⟨rfl, ⟨rfl, ⟨rfl, trivial⟩⟩⟩ ?_
      exact kB_Lexer_behindSign_118 hF
    · rw [if_neg q39] at hF
      refine ab_iload_n d_Lexer_behindSign_112 rfl rfl ?_
      refine ab_bipush (v := 124) d_Lexer_behindSign_113 (by decide) ?_
      refine ab_icmp_ne (tgt := 136) d_Lexer_behindSign_115 (by decide) (fun q42 => ?_) (fun q42 => ?_)
      · rw [if_neg q42] at hF
        refine ab_le (lv' := [some (.ref p0), some (.int p1), some (.int l2), none, some (.int l4)]) ⟨rfl, ⟨rfl, ⟨rfl, ⟨rfl, trivial⟩⟩⟩⟩ ?_
        exact kB_Lexer_behindSign_136 hF
      · rw [if_pos q42] at hF
        refine ab_le (lv' := [some (.ref p0), some (.int p1), some (.int l2), none, none]) ⟨rfl, ⟨rfl, ⟨rfl, trivial⟩⟩⟩ ?_
        exact kB_Lexer_behindSign_118 hF
def B_Lexer_behindSign_96 (N : Nat) (p0 : Nat) (p1 : Int32) (w0 : Int32) (H : Hp) : Option (Int32 × Hp) :=
    B_Lexer_behindSign_167 N p0 p1 w0 H
set_option maxRecDepth 20000 in
set_option maxHeartbeats 2000000 in
theorem mB_Lexer_behindSign_96 {N : Nat} {p0 : Nat} {p1 : Int32} {w0 : Int32} {H : Hp} {r : Int32 × Hp} (hF : B_Lexer_behindSign_96 N p0 p1 w0 H = some r) : Sa H r.2 := by
  unfold B_Lexer_behindSign_96 at hF
  have hm := Sa.rf H
  exact hm.tr (mB_Lexer_behindSign_167 hF)
set_option maxRecDepth 20000 in
set_option maxHeartbeats 2000000 in
theorem kB_Lexer_behindSign_96 {N : Nat} {p0 : Nat} {p1 : Int32} {w0 : Int32} {H : Hp} {r : Int32 × Hp} (hF : B_Lexer_behindSign_96 N p0 p1 w0 H = some r) : ab_V y_Lexer_behindSign { frames := 4, cells := 0, slots := 0, locals := 91 } (po (.returned (some (.int r.1))) r.2) 0 0 0 0 96 [some (.ref p0), some (.int p1), none, none, none] [.int w0] (hpw H) := by
  unfold B_Lexer_behindSign_96 at hF
  refine ab_istore (lv' := [some (.ref p0), some (.int p1), none, none, some (.int w0)]) d_Lexer_behindSign_96 (by decide) rfl ?_
  refine ab_goto (tgt := 167) d_Lexer_behindSign_98 (by decide) ?_
  exact kB_Lexer_behindSign_167 hF
def B_Lexer_behindSign_61 (N : Nat) (p0 : Nat) (p1 : Int32) (l2 : Int32) (H : Hp) : Option (Int32 × Hp) :=
    if l2 = (60 : Int32) then
    B_Lexer_behindSign_96 N p0 p1 26 H
    else
    if l2 = (62 : Int32) then
    B_Lexer_behindSign_96 N p0 p1 27 H
    else
    if l2 = (61 : Int32) then
    B_Lexer_behindSign_96 N p0 p1 28 H
    else
    B_Lexer_behindSign_96 N p0 p1 29 H
set_option maxRecDepth 20000 in
set_option maxHeartbeats 2000000 in
theorem mB_Lexer_behindSign_61 {N : Nat} {p0 : Nat} {p1 : Int32} {l2 : Int32} {H : Hp} {r : Int32 × Hp} (hF : B_Lexer_behindSign_61 N p0 p1 l2 H = some r) : Sa H r.2 := by
  unfold B_Lexer_behindSign_61 at hF
  have hm := Sa.rf H
  rcases ite_s hF with ⟨q_15, hG⟩ | ⟨q_15, hG⟩
  · clear hF
    exact hm.tr (mB_Lexer_behindSign_96 hG)
  · clear hF
    rcases ite_s hG with ⟨q_16, hF⟩ | ⟨q_16, hF⟩
    · clear hG
      exact hm.tr (mB_Lexer_behindSign_96 hF)
    · clear hG
      rcases ite_s hF with ⟨q_17, hG⟩ | ⟨q_17, hG⟩
      · clear hF
        exact hm.tr (mB_Lexer_behindSign_96 hG)
      · clear hF
        exact hm.tr (mB_Lexer_behindSign_96 hG)
set_option maxRecDepth 20000 in
set_option maxHeartbeats 2000000 in
theorem kB_Lexer_behindSign_61 {N : Nat} {p0 : Nat} {p1 : Int32} {l2 : Int32} {H : Hp} {r : Int32 × Hp} (hF : B_Lexer_behindSign_61 N p0 p1 l2 H = some r) : ab_V y_Lexer_behindSign { frames := 4, cells := 0, slots := 0, locals := 91 } (po (.returned (some (.int r.1))) r.2) 0 0 0 0 61 [some (.ref p0), some (.int p1), some (.int l2), none, none] [] (hpw H) := by
  unfold B_Lexer_behindSign_61 at hF
  refine ab_iload_n d_Lexer_behindSign_61 rfl rfl ?_
  refine ab_bipush (v := 60) d_Lexer_behindSign_62 (by decide) ?_
  refine ab_icmp_ne (tgt := 72) d_Lexer_behindSign_64 (by decide) (fun q47 => ?_) (fun q47 => ?_)
  · rw [if_neg q47] at hF
    refine ab_iload_n d_Lexer_behindSign_72 rfl rfl ?_
    refine ab_bipush (v := 62) d_Lexer_behindSign_73 (by decide) ?_
    refine ab_icmp_ne (tgt := 83) d_Lexer_behindSign_75 (by decide) (fun q48 => ?_) (fun q48 => ?_)
    · rw [if_neg q48] at hF
      refine ab_iload_n d_Lexer_behindSign_83 rfl rfl ?_
      refine ab_bipush (v := 61) d_Lexer_behindSign_84 (by decide) ?_
      refine ab_icmp_ne (tgt := 94) d_Lexer_behindSign_86 (by decide) (fun q49 => ?_) (fun q49 => ?_)
      · rw [if_neg q49] at hF
        refine ab_bipush (v := 29) d_Lexer_behindSign_94 (by decide) ?_
        refine ab_le (lv' := [some (.ref p0), some (.int p1), none, none, none]) ⟨rfl, ⟨rfl, trivial⟩⟩ ?_
        exact kB_Lexer_behindSign_96 hF
      · rw [if_pos q49] at hF
        refine ab_bipush (v := 28) d_Lexer_behindSign_89 (by decide) ?_
        refine ab_goto (tgt := 96) d_Lexer_behindSign_91 (by decide) ?_
        refine ab_le (lv' := [some (.ref p0), some (.int p1), none, none, none]) ⟨rfl, ⟨rfl, trivial⟩⟩ ?_
        exact kB_Lexer_behindSign_96 hF
    · rw [if_pos q48] at hF
      refine ab_bipush (v := 27) d_Lexer_behindSign_78 (by decide) ?_
      refine ab_goto (tgt := 96) d_Lexer_behindSign_80 (by decide) ?_
      refine ab_le (lv' := [some (.ref p0), some (.int p1), none, none, none]) ⟨rfl, ⟨rfl, trivial⟩⟩ ?_
      exact kB_Lexer_behindSign_96 hF
  · rw [if_pos q47] at hF
    refine ab_bipush (v := 26) d_Lexer_behindSign_67 (by decide) ?_
    refine ab_goto (tgt := 96) d_Lexer_behindSign_69 (by decide) ?_
    refine ab_le (lv' := [some (.ref p0), some (.int p1), none, none, none]) ⟨rfl, ⟨rfl, trivial⟩⟩ ?_
    exact kB_Lexer_behindSign_96 hF
def B_Lexer_behindSign_27 (N : Nat) (p0 : Nat) (p1 : Int32) (l2 : Int32) (w0 : Int32) (H : Hp) : Option (Int32 × Hp) :=
    if w0 = (61 : Int32) then
    if l2 = (60 : Int32) then
    B_Lexer_behindSign_61 N p0 p1 l2 H
    else
    if l2 = (62 : Int32) then
    B_Lexer_behindSign_61 N p0 p1 l2 H
    else
    if l2 = (61 : Int32) then
    B_Lexer_behindSign_61 N p0 p1 l2 H
    else
    if l2 = (33 : Int32) then
    B_Lexer_behindSign_61 N p0 p1 l2 H
    else
    B_Lexer_behindSign_101 N p0 p1 l2 w0 1 H
    else
    B_Lexer_behindSign_101 N p0 p1 l2 w0 1 H
set_option maxRecDepth 20000 in
set_option maxHeartbeats 2000000 in
theorem mB_Lexer_behindSign_27 {N : Nat} {p0 : Nat} {p1 : Int32} {l2 : Int32} {w0 : Int32} {H : Hp} {r : Int32 × Hp} (hF : B_Lexer_behindSign_27 N p0 p1 l2 w0 H = some r) : Sa H r.2 := by
  unfold B_Lexer_behindSign_27 at hF
  have hm := Sa.rf H
  rcases ite_s hF with ⟨q_18, hG⟩ | ⟨q_18, hG⟩
  · clear hF
    rcases ite_s hG with ⟨q_19, hF⟩ | ⟨q_19, hF⟩
    · clear hG
      exact hm.tr (mB_Lexer_behindSign_61 hF)
    · clear hG
      rcases ite_s hF with ⟨q_20, hG⟩ | ⟨q_20, hG⟩
      · clear hF
        exact hm.tr (mB_Lexer_behindSign_61 hG)
      · clear hF
        rcases ite_s hG with ⟨q_21, hF⟩ | ⟨q_21, hF⟩
        · clear hG
          exact hm.tr (mB_Lexer_behindSign_61 hF)
        · clear hG
          rcases ite_s hF with ⟨q_22, hG⟩ | ⟨q_22, hG⟩
          · clear hF
            exact hm.tr (mB_Lexer_behindSign_61 hG)
          · clear hF
            exact hm.tr (mB_Lexer_behindSign_101 hG)
  · clear hF
    exact hm.tr (mB_Lexer_behindSign_101 hG)
set_option maxRecDepth 20000 in
set_option maxHeartbeats 2000000 in
theorem kB_Lexer_behindSign_27 {N : Nat} {p0 : Nat} {p1 : Int32} {l2 : Int32} {w0 : Int32} {H : Hp} {r : Int32 × Hp} (hF : B_Lexer_behindSign_27 N p0 p1 l2 w0 H = some r) : ab_V y_Lexer_behindSign { frames := 4, cells := 0, slots := 0, locals := 91 } (po (.returned (some (.int r.1))) r.2) 0 0 0 0 27 [some (.ref p0), some (.int p1), some (.int l2), none, none] [.int w0] (hpw H) := by
  unfold B_Lexer_behindSign_27 at hF
  refine ab_istore_n (lv' := [some (.ref p0), some (.int p1), some (.int l2), some (.int w0), none]) d_Lexer_behindSign_27 rfl (by decide) rfl ?_
  refine ab_iconst (v := 1) d_Lexer_behindSign_28 (by decide) ?_
  refine ab_istore (lv' := [some (.ref p0), some (.int p1), some (.int l2), some (.int w0), some (.int 1)]) d_Lexer_behindSign_29 (by decide) rfl ?_
  refine ab_iload_n d_Lexer_behindSign_31 rfl rfl ?_
  refine ab_bipush (v := 61) d_Lexer_behindSign_32 (by decide) ?_
  refine ab_icmp_ne (tgt := 101) d_Lexer_behindSign_34 (by decide) (fun q7 => ?_) (fun q7 => ?_)
  · rw [if_neg q7] at hF
    exact kB_Lexer_behindSign_101 hF
  · rw [if_pos q7] at hF
    refine ab_iload_n d_Lexer_behindSign_37 rfl rfl ?_
    refine ab_bipush (v := 60) d_Lexer_behindSign_38 (by decide) ?_
    refine ab_icmp_eq (tgt := 61) d_Lexer_behindSign_40 (by decide) (fun q46 => ?_) (fun q46 => ?_)
    · rw [if_pos q46] at hF
      refine ab_le (lv' := [some (.ref p0), some (.int p1), some (.int l2), none, none]) ⟨rfl, ⟨rfl, ⟨rfl, trivial⟩⟩⟩ ?_
      exact kB_Lexer_behindSign_61 hF
    · rw [if_neg q46] at hF
      refine ab_iload_n d_Lexer_behindSign_43 rfl rfl ?_
      refine ab_bipush (v := 62) d_Lexer_behindSign_44 (by decide) ?_
      refine ab_icmp_eq (tgt := 61) d_Lexer_behindSign_46 (by decide) (fun q53 => ?_) (fun q53 => ?_)
      · rw [if_pos q53] at hF
        refine ab_le (lv' := [some (.ref p0), some (.int p1), some (.int l2), none, none]) ⟨rfl, ⟨rfl, ⟨rfl, trivial⟩⟩⟩ ?_
        exact kB_Lexer_behindSign_61 hF
      · rw [if_neg q53] at hF
        refine ab_iload_n d_Lexer_behindSign_49 rfl rfl ?_
        refine ab_bipush (v := 61) d_Lexer_behindSign_50 (by decide) ?_
        refine ab_icmp_eq (tgt := 61) d_Lexer_behindSign_52 (by decide) (fun q54 => ?_) (fun q54 => ?_)
        · rw [if_pos q54] at hF
          refine ab_le (lv' := [some (.ref p0), some (.int p1), some (.int l2), none, none]) ⟨rfl, ⟨rfl, ⟨rfl, trivial⟩⟩⟩ ?_
          exact kB_Lexer_behindSign_61 hF
        · rw [if_neg q54] at hF
          refine ab_iload_n d_Lexer_behindSign_55 rfl rfl ?_
          refine ab_bipush (v := 33) d_Lexer_behindSign_56 (by decide) ?_
          refine ab_icmp_ne (tgt := 101) d_Lexer_behindSign_58 (by decide) (fun q55 => ?_) (fun q55 => ?_)
          · rw [if_neg q55] at hF
            exact kB_Lexer_behindSign_101 hF
          · rw [if_pos q55] at hF
            refine ab_le (lv' := [some (.ref p0), some (.int p1), some (.int l2), none, none]) ⟨rfl, ⟨rfl, ⟨rfl, trivial⟩⟩⟩ ?_
            exact kB_Lexer_behindSign_61 hF
def F_Lexer_behindSign (N : Nat) (p0 : Nat) (p1 : Int32) (H : Hp) : Option (Int32 × Hp) :=
    ck (H.sh[p0]? = some (1, 0)) <|
    bC (F_Lexer_byteAt N p0 p1 H) fun v3 H4 =>
    bnd ((H4.D p0 1)) fun x5 =>
    if x5 ≤ (p1 + (1 : Int32)) then
    B_Lexer_behindSign_27 N p0 p1 v3 0 H4
    else
    bC (F_Lexer_byteAt N p0 (p1 + (1 : Int32)) H4) fun v62 H63 =>
    B_Lexer_behindSign_27 N p0 p1 v3 v62 H63
set_option maxRecDepth 20000 in
set_option maxHeartbeats 2000000 in
theorem m_Lexer_behindSign {N : Nat} {p0 : Nat} {p1 : Int32} {H : Hp} {r : Int32 × Hp} (hF : F_Lexer_behindSign N p0 p1 H = some r) : Sa H r.2 := by
  unfold F_Lexer_behindSign at hF
  have hm := Sa.rf H
  obtain ⟨q64, hG⟩ := ck_s hF; clear hF
  obtain ⟨v66, H67, z65, hF⟩ := bC_s hG; clear hG
  replace hm : Sa H H67 := hm.tr (m_Lexer_byteAt z65)
  obtain ⟨x68, -, hG⟩ := bnd_g hF; clear hF
  rcases ite_s hG with ⟨q_25, hF⟩ | ⟨q_25, hF⟩
  · clear hG
    exact hm.tr (mB_Lexer_behindSign_27 hF)
  · clear hG
    obtain ⟨v71, H72, z70, hG⟩ := bC_s hF; clear hF
    replace hm : Sa H H72 := hm.tr (m_Lexer_byteAt z70)
    exact hm.tr (mB_Lexer_behindSign_27 hG)
set_option maxRecDepth 20000 in
set_option maxHeartbeats 2000000 in
theorem k_Lexer_behindSign {N : Nat} {p0 : Nat} {p1 : Int32} {H : Hp} {r : Int32 × Hp} (hF : F_Lexer_behindSign N p0 p1 H = some r) : ab_M y_Lexer_behindSign { frames := 4, cells := 0, slots := 0, locals := 91 } [.ref p0, .int p1] (hpw H) (po (.returned (some (.int r.1))) r.2) := by
  unfold F_Lexer_behindSign at hF
  refine ab_of2 (lv := [some (.ref p0), some (.int p1), none, none, none]) 3 rfl rfl (Nat.le_of_ble_eq_true rfl) ?_
  refine ab_aload_n d_Lexer_behindSign_0 rfl rfl rfl ?_
  refine ab_iload_n d_Lexer_behindSign_1 rfl rfl ?_
  obtain ⟨q1, hG⟩ := ck_s hF; clear hF
  obtain ⟨v3, H4, z2, hF⟩ := bC_s hG; clear hG
  refine hp_callV_a (v := .int v3) (H1 := H4) (As := [.int p1]) (rest := []) d_Lexer_behindSign_2 (k_Lexer_byteAt z2) (ab_mkC s_Lexer_byteAt (Nat.le_of_ble_eq_true rfl) (Nat.le_of_ble_eq_true rfl) (Nat.le_refl 0) (Nat.le_refl 0)) (k3 226 rfl rfl) i_Lexer_byteAt v_Lexer_byteAt q1 (by decide) rfl rfl (Nat.le_of_ble_eq_true rfl) ?_
  have s_1 : Sa H H4 := (m_Lexer_byteAt z2)
  refine ab_istore_n (lv' := [some (.ref p0), some (.int p1), some (.int v3), none, none]) d_Lexer_behindSign_5 rfl (by decide) rfl ?_
  refine ab_iload_n d_Lexer_behindSign_6 rfl rfl ?_
  refine ab_iconst (v := 1) d_Lexer_behindSign_7 (by decide) ?_
  refine ab_iadd d_Lexer_behindSign_8 ?_
  refine ab_aload_n d_Lexer_behindSign_9 rfl rfl rfl ?_
  refine hp_getI (f := 1) d_Lexer_behindSign_10 (by rw [(s_1).1]; exact q1) (by decide) rfl (by decide) (k1 95 rfl rfl) rfl ?_
  refine ab_topi (fun x5 ex5 => ?_)
  replace hF := bnd_s ex5 hF
  refine ab_icmp_ge (tgt := 26) d_Lexer_behindSign_13 (by decide) (fun q6 => ?_) (fun q6 => ?_)
  · rw [if_pos q6] at hF
    refine ab_iconst (v := 0) d_Lexer_behindSign_26 (by decide) ?_
    exact kB_Lexer_behindSign_27 hF
  · rw [if_neg q6] at hF
    refine ab_aload_n d_Lexer_behindSign_16 rfl rfl rfl ?_
    refine ab_iload_n d_Lexer_behindSign_17 rfl rfl ?_
    refine ab_iconst (v := 1) d_Lexer_behindSign_18 (by decide) ?_
    refine ab_iadd d_Lexer_behindSign_19 ?_
    obtain ⟨v62, H63, z61, hG⟩ := bC_s hF; clear hF
    refine hp_callV_a (v := .int v62) (H1 := H63) (As := [.int (p1 + (1 : Int32))]) (rest := []) d_Lexer_behindSign_20 (k_Lexer_byteAt z61) (ab_mkC s_Lexer_byteAt (Nat.le_of_ble_eq_true rfl) (Nat.le_of_ble_eq_true rfl) (Nat.le_refl 0) (Nat.le_refl 0)) (k3 226 rfl rfl) i_Lexer_byteAt v_Lexer_byteAt (by rw [(s_1).1]; exact q1) (by decide) rfl rfl (Nat.le_of_ble_eq_true rfl) ?_
    have s_23 : Sa H H63 := (s_1).tr (m_Lexer_byteAt z61)
    refine ab_goto (tgt := 27) d_Lexer_behindSign_23 (by decide) ?_
    exact kB_Lexer_behindSign_27 hG
def y_Lexer_behindToken : ab_Y := (⟨"WorldEngine$Lexer", "behindToken", "(I)I"⟩, prog_3_method_7_code, 3, (some FieldType.int), [])
theorem d_Lexer_behindToken_0 : decode y_Lexer_behindToken.2.1 0 = .ok (.aload_n 0, 1) := by decide +kernel
theorem d_Lexer_behindToken_1 : decode y_Lexer_behindToken.2.1 1 = .ok (.iload_n 1, 1) := by decide +kernel
theorem d_Lexer_behindToken_2 : decode y_Lexer_behindToken.2.1 2 = .ok (.invokevirtual 74, 3) := by decide +kernel
theorem d_Lexer_behindToken_5 : decode y_Lexer_behindToken.2.1 5 = .ok (.istore_n 2, 1) := by decide +kernel
theorem d_Lexer_behindToken_6 : decode y_Lexer_behindToken.2.1 6 = .ok (.iload_n 2, 1) := by decide +kernel
theorem d_Lexer_behindToken_7 : decode y_Lexer_behindToken.2.1 7 = .ok (.invokestatic 77, 3) := by decide +kernel
theorem d_Lexer_behindToken_10 : decode y_Lexer_behindToken.2.1 10 = .ok (.ifCond .eq 9, 3) := by decide +kernel
theorem d_Lexer_behindToken_13 : decode y_Lexer_behindToken.2.1 13 = .ok (.aload_n 0, 1) := by decide +kernel
theorem d_Lexer_behindToken_14 : decode y_Lexer_behindToken.2.1 14 = .ok (.iload_n 1, 1) := by decide +kernel
theorem d_Lexer_behindToken_15 : decode y_Lexer_behindToken.2.1 15 = .ok (.invokevirtual 81, 3) := by decide +kernel
theorem d_Lexer_behindToken_18 : decode y_Lexer_behindToken.2.1 18 = .ok (.ireturn, 1) := by decide +kernel
theorem d_Lexer_behindToken_19 : decode y_Lexer_behindToken.2.1 19 = .ok (.iload_n 2, 1) := by decide +kernel
theorem d_Lexer_behindToken_20 : decode y_Lexer_behindToken.2.1 20 = .ok (.invokestatic 84, 3) := by decide +kernel
theorem d_Lexer_behindToken_23 : decode y_Lexer_behindToken.2.1 23 = .ok (.ifCond .eq 9, 3) := by decide +kernel
theorem d_Lexer_behindToken_26 : decode y_Lexer_behindToken.2.1 26 = .ok (.aload_n 0, 1) := by decide +kernel
theorem d_Lexer_behindToken_27 : decode y_Lexer_behindToken.2.1 27 = .ok (.iload_n 1, 1) := by decide +kernel
theorem d_Lexer_behindToken_28 : decode y_Lexer_behindToken.2.1 28 = .ok (.invokevirtual 87, 3) := by decide +kernel
theorem d_Lexer_behindToken_31 : decode y_Lexer_behindToken.2.1 31 = .ok (.ireturn, 1) := by decide +kernel
theorem d_Lexer_behindToken_32 : decode y_Lexer_behindToken.2.1 32 = .ok (.aload_n 0, 1) := by decide +kernel
theorem d_Lexer_behindToken_33 : decode y_Lexer_behindToken.2.1 33 = .ok (.iload_n 1, 1) := by decide +kernel
theorem d_Lexer_behindToken_34 : decode y_Lexer_behindToken.2.1 34 = .ok (.invokevirtual 90, 3) := by decide +kernel
theorem d_Lexer_behindToken_37 : decode y_Lexer_behindToken.2.1 37 = .ok (.ireturn, 1) := by decide +kernel
theorem s_Lexer_behindToken : ab_Stat y_Lexer_behindToken 1 := ⟨(k3 233 rfl rfl), (k1 2 rfl rfl), ⟨by decide, by decide⟩, by decide +kernel⟩
theorem i_Lexer_behindToken : Cond.instanceMethod y_Lexer_behindToken.1 ∈ ab_T := (k3 232 rfl rfl)
theorem v_Lexer_behindToken : Cond.selects "WorldEngine$Lexer" y_Lexer_behindToken.1 y_Lexer_behindToken.1 ∈ ab_T := ab_s (List.mem_of_getElem? (i := 2) rfl) rfl
def F_Lexer_behindToken (N : Nat) (p0 : Nat) (p1 : Int32) (H : Hp) : Option (Int32 × Hp) :=
    ck (H.sh[p0]? = some (1, 0)) <|
    bC (F_Lexer_byteAt N p0 p1 H) fun v3 H4 =>
    bC (F_Lexer_isLetter N v3 H4) fun v6 H7 =>
    if v6 = (0 : Int32) then
    bC (F_Lexer_isDigit N v3 H7) fun v10 H11 =>
    if v10 = (0 : Int32) then
    bC (F_Lexer_behindSign N p0 p1 H11) fun v14 H15 =>
    some (v14, H15)
    else
    bC (F_Lexer_behindNumber N p0 p1 H11) fun v17 H18 =>
    some (v17, H18)
    else
    bC (F_Lexer_behindName N p0 p1 H7) fun v20 H21 =>
    some (v20, H21)
set_option maxRecDepth 20000 in
set_option maxHeartbeats 2000000 in
theorem m_Lexer_behindToken {N : Nat} {p0 : Nat} {p1 : Int32} {H : Hp} {r : Int32 × Hp} (hF : F_Lexer_behindToken N p0 p1 H = some r) : Sa H r.2 := by
  unfold F_Lexer_behindToken at hF
  have hm := Sa.rf H
  obtain ⟨q22, hG⟩ := ck_s hF; clear hF
  obtain ⟨v24, H25, z23, hF⟩ := bC_s hG; clear hG
  replace hm : Sa H H25 := hm.tr (m_Lexer_byteAt z23)
  obtain ⟨v27, H28, z26, hG⟩ := bC_s hF; clear hF
  replace hm : Sa H H28 := hm.tr (m_Lexer_isLetter z26)
  rcases ite_s hG with ⟨q_9, hF⟩ | ⟨q_9, hF⟩
  · clear hG
    obtain ⟨v31, H32, z30, hG⟩ := bC_s hF; clear hF
    replace hm : Sa H H32 := hm.tr (m_Lexer_isDigit z30)
    rcases ite_s hG with ⟨q_11, hF⟩ | ⟨q_11, hF⟩
    · clear hG
      obtain ⟨v35, H36, z34, hG⟩ := bC_s hF; clear hF
      replace hm : Sa H H36 := hm.tr (m_Lexer_behindSign z34)
      have hr := Option.some.inj hG; subst hr
      exact hm
    · clear hG
      obtain ⟨v38, H39, z37, hG⟩ := bC_s hF; clear hF
      replace hm : Sa H H39 := hm.tr (m_Lexer_behindNumber z37)
      have hr := Option.some.inj hG; subst hr
      exact hm
  · clear hG
    obtain ⟨v41, H42, z40, hG⟩ := bC_s hF; clear hF
    replace hm : Sa H H42 := hm.tr (m_Lexer_behindName z40)
    have hr := Option.some.inj hG; subst hr
    exact hm
set_option maxRecDepth 20000 in
set_option maxHeartbeats 2000000 in
theorem k_Lexer_behindToken {N : Nat} {p0 : Nat} {p1 : Int32} {H : Hp} {r : Int32 × Hp} (hF : F_Lexer_behindToken N p0 p1 H = some r) : ab_M y_Lexer_behindToken { frames := 6, cells := 0, slots := 0, locals := 132 } [.ref p0, .int p1] (hpw H) (po (.returned (some (.int r.1))) r.2) := by
  unfold F_Lexer_behindToken at hF
  refine ab_of2 (lv := [some (.ref p0), some (.int p1), none]) 1 rfl rfl (Nat.le_of_ble_eq_true rfl) ?_
  refine ab_aload_n d_Lexer_behindToken_0 rfl rfl rfl ?_
  refine ab_iload_n d_Lexer_behindToken_1 rfl rfl ?_
  obtain ⟨q1, hG⟩ := ck_s hF; clear hF
  obtain ⟨v3, H4, z2, hF⟩ := bC_s hG; clear hG
  refine hp_callV_a (v := .int v3) (H1 := H4) (As := [.int p1]) (rest := []) d_Lexer_behindToken_2 (k_Lexer_byteAt z2) (ab_mkC s_Lexer_byteAt (Nat.le_of_ble_eq_true rfl) (Nat.le_of_ble_eq_true rfl) (Nat.le_refl 0) (Nat.le_refl 0)) (k3 226 rfl rfl) i_Lexer_byteAt v_Lexer_byteAt q1 (by decide) rfl rfl (Nat.le_of_ble_eq_true rfl) ?_
  have s_1 : Sa H H4 := (m_Lexer_byteAt z2)
  refine ab_istore_n (lv' := [some (.ref p0), some (.int p1), some (.int v3)]) d_Lexer_behindToken_5 rfl (by decide) rfl ?_
  refine ab_iload_n d_Lexer_behindToken_6 rfl rfl ?_
  obtain ⟨v6, H7, z5, hG⟩ := bC_s hF; clear hF
  refine hp_callS_a (v := .int v6) (H1 := H7) (As := [.int v3]) (rest := []) d_Lexer_behindToken_7 (k_Lexer_isLetter z5) (ab_mkC s_Lexer_isLetter (Nat.le_of_ble_eq_true rfl) (Nat.le_of_ble_eq_true rfl) (Nat.le_refl 0) (Nat.le_refl 0)) (k3 234 rfl rfl) t_Lexer_isLetter rfl (Nat.le_of_ble_eq_true rfl) ?_
  have s_2 : Sa H H7 := (s_1).tr (m_Lexer_isLetter z5)
  refine ab_if_eq (tgt := 19) d_Lexer_behindToken_10 (by decide) (fun q8 => ?_) (fun q8 => ?_)
  · rw [if_pos q8] at hG
    refine ab_iload_n d_Lexer_behindToken_19 rfl rfl ?_
    obtain ⟨v10, H11, z9, hF⟩ := bC_s hG; clear hG
    refine hp_callS_a (v := .int v10) (H1 := H11) (As := [.int v3]) (rest := []) d_Lexer_behindToken_20 (k_Lexer_isDigit z9) (ab_mkC s_Lexer_isDigit (Nat.le_of_ble_eq_true rfl) (Nat.le_of_ble_eq_true rfl) (Nat.le_refl 0) (Nat.le_refl 0)) (k4 1 rfl rfl) t_Lexer_isDigit rfl (Nat.le_of_ble_eq_true rfl) ?_
    have s_3 : Sa H H11 := (s_2).tr (m_Lexer_isDigit z9)
    refine ab_if_eq (tgt := 32) d_Lexer_behindToken_23 (by decide) (fun q12 => ?_) (fun q12 => ?_)
    · rw [if_pos q12] at hF
      refine ab_aload_n d_Lexer_behindToken_32 rfl rfl rfl ?_
      refine ab_iload_n d_Lexer_behindToken_33 rfl rfl ?_
      obtain ⟨v14, H15, z13, hG⟩ := bC_s hF; clear hF
      refine hp_callV_a (v := .int v14) (H1 := H15) (As := [.int p1]) (rest := []) d_Lexer_behindToken_34 (k_Lexer_behindSign z13) (ab_mkC s_Lexer_behindSign (Nat.le_of_ble_eq_true rfl) (Nat.le_of_ble_eq_true rfl) (Nat.le_refl 0) (Nat.le_refl 0)) (k4 29 rfl rfl) i_Lexer_behindSign v_Lexer_behindSign (by rw [(s_3).1]; exact q1) (by decide) rfl rfl (Nat.le_of_ble_eq_true rfl) ?_
      have s_4 : Sa H H15 := (s_3).tr (m_Lexer_behindSign z13)
      exact ab_iret d_Lexer_behindToken_37 rfl (Nat.le_refl _) (Nat.le_refl _) (by have hr := Option.some.inj hG; subst hr; exact ⟨rfl, rfl⟩)
    · rw [if_neg q12] at hF
      refine ab_aload_n d_Lexer_behindToken_26 rfl rfl rfl ?_
      refine ab_iload_n d_Lexer_behindToken_27 rfl rfl ?_
      obtain ⟨v17, H18, z16, hG⟩ := bC_s hF; clear hF
      refine hp_callV_a (v := .int v17) (H1 := H18) (As := [.int p1]) (rest := []) d_Lexer_behindToken_28 (k_Lexer_behindNumber z16) (ab_mkC s_Lexer_behindNumber (Nat.le_of_ble_eq_true rfl) (Nat.le_of_ble_eq_true rfl) (Nat.le_refl 0) (Nat.le_refl 0)) (k4 12 rfl rfl) i_Lexer_behindNumber v_Lexer_behindNumber (by rw [(s_3).1]; exact q1) (by decide) rfl rfl (Nat.le_of_ble_eq_true rfl) ?_
      have s_5 : Sa H H18 := (s_3).tr (m_Lexer_behindNumber z16)
      exact ab_iret d_Lexer_behindToken_31 rfl (Nat.le_refl _) (Nat.le_refl _) (by have hr := Option.some.inj hG; subst hr; exact ⟨rfl, rfl⟩)
  · rw [if_neg q8] at hG
    refine ab_aload_n d_Lexer_behindToken_13 rfl rfl rfl ?_
    refine ab_iload_n d_Lexer_behindToken_14 rfl rfl ?_
    obtain ⟨v20, H21, z19, hF⟩ := bC_s hG; clear hG
    refine hp_callV_a (v := .int v20) (H1 := H21) (As := [.int p1]) (rest := []) d_Lexer_behindToken_15 (k_Lexer_behindName z19) (ab_mkC s_Lexer_behindName (Nat.le_of_ble_eq_true rfl) (Nat.le_of_ble_eq_true rfl) (Nat.le_refl 0) (Nat.le_refl 0)) (k3 237 rfl rfl) i_Lexer_behindName v_Lexer_behindName (by rw [(s_2).1]; exact q1) (by decide) rfl rfl (Nat.le_of_ble_eq_true rfl) ?_
    have s_6 : Sa H H21 := (s_2).tr (m_Lexer_behindName z19)
    exact ab_iret d_Lexer_behindToken_18 rfl (Nat.le_refl _) (Nat.le_refl _) (by have hr := Option.some.inj hF; subst hr; exact ⟨rfl, rfl⟩)
def y_Lexer_begin : ab_Y := (⟨"WorldEngine$Lexer", "begin", "()V"⟩, prog_3_method_4_code, 4, none, [])
theorem d_Lexer_begin_0 : decode y_Lexer_begin.2.1 0 = .ok (.aload_n 0, 1) := by decide +kernel
theorem d_Lexer_begin_1 : decode y_Lexer_begin.2.1 1 = .ok (.iconst 0, 1) := by decide +kernel
theorem d_Lexer_begin_2 : decode y_Lexer_begin.2.1 2 = .ok (.putfield 45, 3) := by decide +kernel
theorem d_Lexer_begin_5 : decode y_Lexer_begin.2.1 5 = .ok (.aload_n 0, 1) := by decide +kernel
theorem d_Lexer_begin_6 : decode y_Lexer_begin.2.1 6 = .ok (.iconst 0, 1) := by decide +kernel
theorem d_Lexer_begin_7 : decode y_Lexer_begin.2.1 7 = .ok (.putfield 48, 3) := by decide +kernel
theorem d_Lexer_begin_10 : decode y_Lexer_begin.2.1 10 = .ok (.aload_n 0, 1) := by decide +kernel
theorem d_Lexer_begin_11 : decode y_Lexer_begin.2.1 11 = .ok (.iconst 0, 1) := by decide +kernel
theorem d_Lexer_begin_12 : decode y_Lexer_begin.2.1 12 = .ok (.putfield 51, 3) := by decide +kernel
theorem d_Lexer_begin_15 : decode y_Lexer_begin.2.1 15 = .ok (.iconst 1, 1) := by decide +kernel
theorem d_Lexer_begin_16 : decode y_Lexer_begin.2.1 16 = .ok (.istore_n 1, 1) := by decide +kernel
theorem d_Lexer_begin_17 : decode y_Lexer_begin.2.1 17 = .ok (.aload_n 0, 1) := by decide +kernel
theorem d_Lexer_begin_18 : decode y_Lexer_begin.2.1 18 = .ok (.iconst 0, 1) := by decide +kernel
theorem d_Lexer_begin_19 : decode y_Lexer_begin.2.1 19 = .ok (.invokevirtual 54, 3) := by decide +kernel
theorem d_Lexer_begin_22 : decode y_Lexer_begin.2.1 22 = .ok (.istore_n 2, 1) := by decide +kernel
theorem d_Lexer_begin_23 : decode y_Lexer_begin.2.1 23 = .ok (.iconst 0, 1) := by decide +kernel
theorem d_Lexer_begin_24 : decode y_Lexer_begin.2.1 24 = .ok (.istore_n 3, 1) := by decide +kernel
theorem d_Lexer_begin_25 : decode y_Lexer_begin.2.1 25 = .ok (.iload_n 3, 1) := by decide +kernel
theorem d_Lexer_begin_26 : decode y_Lexer_begin.2.1 26 = .ok (.sipush 6000, 3) := by decide +kernel
theorem d_Lexer_begin_29 : decode y_Lexer_begin.2.1 29 = .ok (.if_icmp .ge 59, 3) := by decide +kernel
theorem d_Lexer_begin_32 : decode y_Lexer_begin.2.1 32 = .ok (.iload_n 1, 1) := by decide +kernel
theorem d_Lexer_begin_33 : decode y_Lexer_begin.2.1 33 = .ok (.ifCond .eq 55, 3) := by decide +kernel
theorem d_Lexer_begin_36 : decode y_Lexer_begin.2.1 36 = .ok (.iload_n 2, 1) := by decide +kernel
theorem d_Lexer_begin_37 : decode y_Lexer_begin.2.1 37 = .ok (.aload_n 0, 1) := by decide +kernel
theorem d_Lexer_begin_38 : decode y_Lexer_begin.2.1 38 = .ok (.getfield 42, 3) := by decide +kernel
theorem d_Lexer_begin_41 : decode y_Lexer_begin.2.1 41 = .ok (.if_icmp .ge 47, 3) := by decide +kernel
theorem d_Lexer_begin_44 : decode y_Lexer_begin.2.1 44 = .ok (.aload_n 0, 1) := by decide +kernel
theorem d_Lexer_begin_45 : decode y_Lexer_begin.2.1 45 = .ok (.aload_n 0, 1) := by decide +kernel
theorem d_Lexer_begin_46 : decode y_Lexer_begin.2.1 46 = .ok (.iload_n 2, 1) := by decide +kernel
theorem d_Lexer_begin_47 : decode y_Lexer_begin.2.1 47 = .ok (.invokevirtual 58, 3) := by decide +kernel
theorem d_Lexer_begin_50 : decode y_Lexer_begin.2.1 50 = .ok (.invokevirtual 54, 3) := by decide +kernel
theorem d_Lexer_begin_53 : decode y_Lexer_begin.2.1 53 = .ok (.istore_n 2, 1) := by decide +kernel
theorem d_Lexer_begin_54 : decode y_Lexer_begin.2.1 54 = .ok (.aload_n 0, 1) := by decide +kernel
theorem d_Lexer_begin_55 : decode y_Lexer_begin.2.1 55 = .ok (.getfield 45, 3) := by decide +kernel
theorem d_Lexer_begin_58 : decode y_Lexer_begin.2.1 58 = .ok (.ifCond .le 22, 3) := by decide +kernel
theorem d_Lexer_begin_61 : decode y_Lexer_begin.2.1 61 = .ok (.aload_n 0, 1) := by decide +kernel
theorem d_Lexer_begin_62 : decode y_Lexer_begin.2.1 62 = .ok (.getfield 13, 3) := by decide +kernel
theorem d_Lexer_begin_65 : decode y_Lexer_begin.2.1 65 = .ok (.aload_n 0, 1) := by decide +kernel
theorem d_Lexer_begin_66 : decode y_Lexer_begin.2.1 66 = .ok (.getfield 45, 3) := by decide +kernel
theorem d_Lexer_begin_69 : decode y_Lexer_begin.2.1 69 = .ok (.iconst 1, 1) := by decide +kernel
theorem d_Lexer_begin_70 : decode y_Lexer_begin.2.1 70 = .ok (.isub, 1) := by decide +kernel
theorem d_Lexer_begin_71 : decode y_Lexer_begin.2.1 71 = .ok (.iaload, 1) := by decide +kernel
theorem d_Lexer_begin_72 : decode y_Lexer_begin.2.1 72 = .ok (.iconst 1, 1) := by decide +kernel
theorem d_Lexer_begin_73 : decode y_Lexer_begin.2.1 73 = .ok (.if_icmp .eq 7, 3) := by decide +kernel
theorem d_Lexer_begin_76 : decode y_Lexer_begin.2.1 76 = .ok (.iconst 1, 1) := by decide +kernel
theorem d_Lexer_begin_77 : decode y_Lexer_begin.2.1 77 = .ok (.goto 4, 3) := by decide +kernel
theorem d_Lexer_begin_80 : decode y_Lexer_begin.2.1 80 = .ok (.iconst 0, 1) := by decide +kernel
theorem d_Lexer_begin_81 : decode y_Lexer_begin.2.1 81 = .ok (.istore_n 1, 1) := by decide +kernel
theorem d_Lexer_begin_82 : decode y_Lexer_begin.2.1 82 = .ok (.iinc 3 1, 3) := by decide +kernel
theorem d_Lexer_begin_85 : decode y_Lexer_begin.2.1 85 = .ok (.goto (-60), 3) := by decide +kernel
theorem d_Lexer_begin_88 : decode y_Lexer_begin.2.1 88 = .ok (.iload_n 1, 1) := by decide +kernel
theorem d_Lexer_begin_89 : decode y_Lexer_begin.2.1 89 = .ok (.ifCond .eq 14, 3) := by decide +kernel
theorem d_Lexer_begin_92 : decode y_Lexer_begin.2.1 92 = .ok (.aload_n 0, 1) := by decide +kernel
theorem d_Lexer_begin_93 : decode y_Lexer_begin.2.1 93 = .ok (.iconst 0, 1) := by decide +kernel
theorem d_Lexer_begin_94 : decode y_Lexer_begin.2.1 94 = .ok (.aload_n 0, 1) := by decide +kernel
theorem d_Lexer_begin_95 : decode y_Lexer_begin.2.1 95 = .ok (.getfield 42, 3) := by decide +kernel
theorem d_Lexer_begin_98 : decode y_Lexer_begin.2.1 98 = .ok (.iconst 0, 1) := by decide +kernel
theorem d_Lexer_begin_99 : decode y_Lexer_begin.2.1 99 = .ok (.iconst 0, 1) := by decide +kernel
theorem d_Lexer_begin_100 : decode y_Lexer_begin.2.1 100 = .ok (.invokevirtual 61, 3) := by decide +kernel
theorem d_Lexer_begin_103 : decode y_Lexer_begin.2.1 103 = .ok (.aload_n 0, 1) := by decide +kernel
theorem d_Lexer_begin_104 : decode y_Lexer_begin.2.1 104 = .ok (.iconst 0, 1) := by decide +kernel
theorem d_Lexer_begin_105 : decode y_Lexer_begin.2.1 105 = .ok (.putfield 65, 3) := by decide +kernel
theorem d_Lexer_begin_108 : decode y_Lexer_begin.2.1 108 = .ok (.aload_n 0, 1) := by decide +kernel
theorem d_Lexer_begin_109 : decode y_Lexer_begin.2.1 109 = .ok (.aload_n 0, 1) := by decide +kernel
theorem d_Lexer_begin_110 : decode y_Lexer_begin.2.1 110 = .ok (.getfield 13, 3) := by decide +kernel
theorem d_Lexer_begin_113 : decode y_Lexer_begin.2.1 113 = .ok (.iconst 0, 1) := by decide +kernel
theorem d_Lexer_begin_114 : decode y_Lexer_begin.2.1 114 = .ok (.iaload, 1) := by decide +kernel
theorem d_Lexer_begin_115 : decode y_Lexer_begin.2.1 115 = .ok (.putfield 68, 3) := by decide +kernel
theorem d_Lexer_begin_118 : decode y_Lexer_begin.2.1 118 = .ok (.aload_n 0, 1) := by decide +kernel
theorem d_Lexer_begin_119 : decode y_Lexer_begin.2.1 119 = .ok (.aload_n 0, 1) := by decide +kernel
theorem d_Lexer_begin_120 : decode y_Lexer_begin.2.1 120 = .ok (.getfield 17, 3) := by decide +kernel
theorem d_Lexer_begin_123 : decode y_Lexer_begin.2.1 123 = .ok (.iconst 0, 1) := by decide +kernel
theorem d_Lexer_begin_124 : decode y_Lexer_begin.2.1 124 = .ok (.iaload, 1) := by decide +kernel
theorem d_Lexer_begin_125 : decode y_Lexer_begin.2.1 125 = .ok (.putfield 71, 3) := by decide +kernel
theorem d_Lexer_begin_128 : decode y_Lexer_begin.2.1 128 = .ok (.return_, 1) := by decide +kernel
theorem s_Lexer_begin : ab_Stat y_Lexer_begin 0 := ⟨(k3 221 rfl rfl), (k1 2 rfl rfl), ⟨by decide, by decide⟩, by decide +kernel⟩
theorem i_Lexer_begin : Cond.instanceMethod y_Lexer_begin.1 ∈ ab_T := (k3 219 rfl rfl)
theorem v_Lexer_begin : Cond.selects "WorldEngine$Lexer" y_Lexer_begin.1 y_Lexer_begin.1 ∈ ab_T := (k3 220 rfl rfl)
def B_Lexer_begin_103 (N : Nat) (p0 : Nat)  (H : Hp) : Option (Unit × Hp) :=
    ck (H.sh[p0]? = some (1, 0)) <|
    bnd (H.sD p0 11 (0 : Int32)) fun H11 =>
    rf (H11.P p0 6) fun a12 =>
    ar H11 100 a12 fun n14 =>
    ck (inb (0 : Int32) n14) <|
    bnd ((H11.D a12 ((0 : Int32)).toNatClampNeg)) fun x17 =>
    bnd (H11.sD p0 2 x17) fun H18 =>
    rf (H18.P p0 7) fun a19 =>
    ar H18 100 a19 fun n21 =>
    ck (inb (0 : Int32) n21) <|
    bnd ((H18.D a19 ((0 : Int32)).toNatClampNeg)) fun x24 =>
    bnd (H18.sD p0 3 x24) fun H25 =>
    some ((), H25)
set_option maxRecDepth 20000 in
set_option maxHeartbeats 2000000 in
theorem mB_Lexer_begin_103 {N : Nat} {p0 : Nat}  {H : Hp} {r : Unit × Hp} (hF : B_Lexer_begin_103 N p0  H = some r) : Sa H r.2 := by
  unfold B_Lexer_begin_103 at hF
  have hm := Sa.rf H
  obtain ⟨q26, hG⟩ := ck_s hF; clear hF
  obtain ⟨H27, eH27, hF⟩ := bnd_g hG; clear hG
  replace hm : Sa H H27 := by rw [eH27]; exact hm
  obtain ⟨a28, e29, hG⟩ := rf_s hF; clear hF
  obtain ⟨n30, q31, hF⟩ := ar_s hG; clear hG
  obtain ⟨q32, hG⟩ := ck_s hF; clear hF
  obtain ⟨x33, -, hF⟩ := bnd_g hG; clear hG
  obtain ⟨H34, eH34, hG⟩ := bnd_g hF; clear hF
  replace hm : Sa H H34 := by rw [eH34]; exact hm
  obtain ⟨a35, e36, hF⟩ := rf_s hG; clear hG
  obtain ⟨n37, q38, hG⟩ := ar_s hF; clear hF
  obtain ⟨q39, hF⟩ := ck_s hG; clear hG
  obtain ⟨x40, -, hG⟩ := bnd_g hF; clear hF
  obtain ⟨H41, eH41, hF⟩ := bnd_g hG; clear hG
  replace hm : Sa H H41 := by rw [eH41]; exact hm
  have hr := Option.some.inj hF; subst hr
  exact hm
set_option maxRecDepth 20000 in
set_option maxHeartbeats 2000000 in
theorem kB_Lexer_begin_103 {N : Nat} {p0 : Nat}  {H : Hp} {r : Unit × Hp} (hF : B_Lexer_begin_103 N p0  H = some r) : ab_V y_Lexer_begin { frames := 7, cells := 0, slots := 0, locals := 154 } (po (.returned none) r.2) 0 0 0 0 103 [some (.ref p0), none, none, none] [] (hpw H) := by
  unfold B_Lexer_begin_103 at hF
  refine ab_aload_n d_Lexer_begin_103 rfl rfl rfl ?_
  refine ab_iconst (v := 0) d_Lexer_begin_104 (by decide) ?_
  obtain ⟨q10, hG⟩ := ck_s hF; clear hF
  refine hp_putI (v := 0) (f := 11) d_Lexer_begin_105 q10 (by decide) rfl (by decide) (k1 113 rfl rfl) rfl rfl (fun _ => rfl) (fun _ => rfl) rfl ?_
  refine hp_gen (fun H11 eH11 => ?_)
  replace hG := bnd_s eH11 hG
  have s_5 : Sa H H11 := by rw [eH11]; exact Sa.rf _
  refine ab_aload_n d_Lexer_begin_108 rfl rfl rfl ?_
  refine ab_aload_n d_Lexer_begin_109 rfl rfl rfl ?_
  obtain ⟨a12, e13, hF⟩ := rf_s hG; clear hG
  refine hp_getR (f := 6) d_Lexer_begin_110 (by rw [(s_5).1]; exact q10) (by decide) rfl (by decide) (k1 108 rfl rfl) rfl e13 ?_
  refine ab_iconst (v := 0) d_Lexer_begin_113 (by decide) ?_
  obtain ⟨n14, q15, hG⟩ := ar_s hF; clear hF
  rw [(s_5).1] at q15
  obtain ⟨q16, hF⟩ := ck_s hG; clear hG
  refine hp_iald d_Lexer_begin_114 tI (by rw [(s_5).1]; exact q15) q16 ?_
  refine ab_topi (fun x17 ex17 => ?_)
  replace hF := bnd_s ex17 hF
  refine hp_putI (v := x17) (f := 2) d_Lexer_begin_115 (by rw [(s_5).1]; exact q10) (by decide) rfl (by decide) (k1 100 rfl rfl) rfl rfl (fun _ => rfl) (fun _ => rfl) rfl ?_
  refine hp_gen (fun H18 eH18 => ?_)
  replace hF := bnd_s eH18 hF
  have s_6 : Sa H H18 := by rw [eH18]; exact s_5
  refine ab_aload_n d_Lexer_begin_118 rfl rfl rfl ?_
  refine ab_aload_n d_Lexer_begin_119 rfl rfl rfl ?_
  obtain ⟨a19, e20, hG⟩ := rf_s hF; clear hF
  refine hp_getR (f := 7) d_Lexer_begin_120 (by rw [(s_6).1]; exact q10) (by decide) rfl (by decide) (k1 109 rfl rfl) rfl e20 ?_
  refine ab_iconst (v := 0) d_Lexer_begin_123 (by decide) ?_
  obtain ⟨n21, q22, hF⟩ := ar_s hG; clear hG
  rw [(s_6).1] at q22
  obtain ⟨q23, hG⟩ := ck_s hF; clear hF
  refine hp_iald d_Lexer_begin_124 tI (by rw [(s_6).1]; exact q22) q23 ?_
  refine ab_topi (fun x24 ex24 => ?_)
  replace hG := bnd_s ex24 hG
  refine hp_putI (v := x24) (f := 3) d_Lexer_begin_125 (by rw [(s_6).1]; exact q10) (by decide) rfl (by decide) (k1 102 rfl rfl) rfl rfl (fun _ => rfl) (fun _ => rfl) rfl ?_
  refine hp_gen (fun H25 eH25 => ?_)
  replace hG := bnd_s eH25 hG
  have s_7 : Sa H H25 := by rw [eH25]; exact s_6
  exact ab_vret d_Lexer_begin_128 rfl (Nat.le_refl _) (Nat.le_refl _) (by have hr := Option.some.inj hG; subst hr; exact ⟨rfl, rfl⟩)
def B_Lexer_begin_88 (N : Nat) (p0 : Nat) (l1 : Int32) (H : Hp) : Option (Unit × Hp) :=
    if l1 = (0 : Int32) then
    B_Lexer_begin_103 N p0  H
    else
    ck (H.sh[p0]? = some (1, 0)) <|
    bnd ((H.D p0 1)) fun x43 =>
    bC (F_Lexer_note N p0 (0 : Int32) x43 (0 : Int32) (0 : Int32) H) fun v45 H46 =>
    B_Lexer_begin_103 N p0  H46
set_option maxRecDepth 20000 in
set_option maxHeartbeats 2000000 in
theorem mB_Lexer_begin_88 {N : Nat} {p0 : Nat} {l1 : Int32} {H : Hp} {r : Unit × Hp} (hF : B_Lexer_begin_88 N p0 l1 H = some r) : Sa H r.2 := by
  unfold B_Lexer_begin_88 at hF
  have hm := Sa.rf H
  rcases ite_s hF with ⟨q_12, hG⟩ | ⟨q_12, hG⟩
  · clear hF
    exact hm.tr (mB_Lexer_begin_103 hG)
  · clear hF
    obtain ⟨q48, hF⟩ := ck_s hG; clear hG
    obtain ⟨x49, -, hG⟩ := bnd_g hF; clear hF
    obtain ⟨v51, H52, z50, hF⟩ := bC_s hG; clear hG
    replace hm : Sa H H52 := hm.tr (m_Lexer_note z50)
    exact hm.tr (mB_Lexer_begin_103 hF)
set_option maxRecDepth 20000 in
set_option maxHeartbeats 2000000 in
theorem kB_Lexer_begin_88 {N : Nat} {p0 : Nat} {l1 : Int32} {H : Hp} {r : Unit × Hp} (hF : B_Lexer_begin_88 N p0 l1 H = some r) : ab_V y_Lexer_begin { frames := 7, cells := 0, slots := 0, locals := 154 } (po (.returned none) r.2) 0 0 0 0 88 [some (.ref p0), some (.int l1), none, none] [] (hpw H) := by
  unfold B_Lexer_begin_88 at hF
  refine ab_iload_n d_Lexer_begin_88 rfl rfl ?_
  refine ab_if_eq (tgt := 103) d_Lexer_begin_89 (by decide) (fun q9 => ?_) (fun q9 => ?_)
  · rw [if_pos q9] at hF
    refine ab_le (lv' := [some (.ref p0), none, none, none]) ⟨rfl, trivial⟩ ?_
    exact kB_Lexer_begin_103 hF
  · rw [if_neg q9] at hF
    refine ab_aload_n d_Lexer_begin_92 rfl rfl rfl ?_
    refine ab_iconst (v := 0) d_Lexer_begin_93 (by decide) ?_
    refine ab_aload_n d_Lexer_begin_94 rfl rfl rfl ?_
    obtain ⟨q42, hG⟩ := ck_s hF; clear hF
    refine hp_getI (f := 1) d_Lexer_begin_95 q42 (by decide) rfl (by decide) (k1 95 rfl rfl) rfl ?_
    refine ab_topi (fun x43 ex43 => ?_)
    replace hG := bnd_s ex43 hG
    refine ab_iconst (v := 0) d_Lexer_begin_98 (by decide) ?_
    refine ab_iconst (v := 0) d_Lexer_begin_99 (by decide) ?_
    obtain ⟨v45, H46, z44, hF⟩ := bC_s hG; clear hG
    refine hp_callV_v (H1 := H46) (As := [.int 0, .int x43, .int 0, .int 0]) (rest := []) d_Lexer_begin_100 (k_Lexer_note z44) (ab_mkC s_Lexer_note (Nat.le_of_ble_eq_true rfl) (Nat.le_of_ble_eq_true rfl) (Nat.le_refl 0) (Nat.le_refl 0)) (k4 8 rfl rfl) i_Lexer_note v_Lexer_note q42 (by decide) rfl rfl (Nat.le_of_ble_eq_true rfl) ?_
    have s_11 : Sa H H46 := (m_Lexer_note z44)
    refine ab_le (lv' := [some (.ref p0), none, none, none]) ⟨rfl, trivial⟩ ?_
    exact kB_Lexer_begin_103 hF
def B_Lexer_begin_81 (N : Nat) (p0 : Nat) (kq25 : Int32 → Int32 → Int32 → Hp → Option (Unit × Hp)) (l2 : Int32) (l3 : Int32) (w0 : Int32) (H : Hp) : Option (Unit × Hp) :=
    kq25 w0 l2 (l3 + 1) H
set_option maxRecDepth 20000 in
set_option maxHeartbeats 2000000 in
theorem mB_Lexer_begin_81 {N : Nat} {p0 : Nat} {kq25 : Int32 → Int32 → Int32 → Hp → Option (Unit × Hp)} (hm25 : ∀ (l1 : Int32) (l2 : Int32) (l3 : Int32) (H : Hp) (r : Unit × Hp), kq25 l1 l2 l3 H = some r → Sa H r.2) {l2 : Int32} {l3 : Int32} {w0 : Int32} {H : Hp} {r : Unit × Hp} (hF : B_Lexer_begin_81 N p0 kq25 l2 l3 w0 H = some r) : Sa H r.2 := by
  unfold B_Lexer_begin_81 at hF
  have hm := Sa.rf H
  exact hm.tr (hm25 w0 l2 (l3 + 1) H r hF)
set_option maxRecDepth 20000 in
set_option maxHeartbeats 2000000 in
theorem kB_Lexer_begin_81 {N : Nat} {p0 : Nat} {kq25 : Int32 → Int32 → Int32 → Hp → Option (Unit × Hp)} (hm25 : ∀ (l1 : Int32) (l2 : Int32) (l3 : Int32) (H : Hp) (r : Unit × Hp), kq25 l1 l2 l3 H = some r → Sa H r.2) (hk25 : ∀ (l1 : Int32) (l2 : Int32) (l3 : Int32) (H : Hp) (r : Unit × Hp), kq25 l1 l2 l3 H = some r → ab_V y_Lexer_begin { frames := 7, cells := 0, slots := 0, locals := 154 } (po (.returned none) r.2) 0 0 0 0 25 [some (.ref p0), some (.int l1), some (.int l2), some (.int l3)] [] (hpw H)) {l2 : Int32} {l3 : Int32} {w0 : Int32} {H : Hp} {r : Unit × Hp} (hF : B_Lexer_begin_81 N p0 kq25 l2 l3 w0 H = some r) : ab_V y_Lexer_begin { frames := 7, cells := 0, slots := 0, locals := 154 } (po (.returned none) r.2) 0 0 0 0 81 [some (.ref p0), none, some (.int l2), some (.int l3)] [.int w0] (hpw H) := by
  unfold B_Lexer_begin_81 at hF
  refine ab_istore_n (lv' := [some (.ref p0), some (.int w0), some (.int l2), some (.int l3)]) d_Lexer_begin_81 rfl (by decide) rfl ?_
  refine ab_iinc (v := l3 + 1) (lv' := [some (.ref p0), some (.int w0), some (.int l2), some (.int (l3 + 1))]) d_Lexer_begin_82 rfl rfl (by decide) rfl ?_
  refine ab_goto (tgt := 25) d_Lexer_begin_85 (by decide) ?_
  exact hk25 w0 l2 (l3 + 1) H r hF
def B_Lexer_begin_80 (N : Nat) (p0 : Nat) (kq25 : Int32 → Int32 → Int32 → Hp → Option (Unit × Hp)) (l2 : Int32) (l3 : Int32) (H : Hp) : Option (Unit × Hp) :=
    B_Lexer_begin_81 N p0 kq25 l2 l3 0 H
set_option maxRecDepth 20000 in
set_option maxHeartbeats 2000000 in
theorem mB_Lexer_begin_80 {N : Nat} {p0 : Nat} {kq25 : Int32 → Int32 → Int32 → Hp → Option (Unit × Hp)} (hm25 : ∀ (l1 : Int32) (l2 : Int32) (l3 : Int32) (H : Hp) (r : Unit × Hp), kq25 l1 l2 l3 H = some r → Sa H r.2) {l2 : Int32} {l3 : Int32} {H : Hp} {r : Unit × Hp} (hF : B_Lexer_begin_80 N p0 kq25 l2 l3 H = some r) : Sa H r.2 := by
  unfold B_Lexer_begin_80 at hF
  have hm := Sa.rf H
  exact hm.tr (mB_Lexer_begin_81 hm25 hF)
set_option maxRecDepth 20000 in
set_option maxHeartbeats 2000000 in
theorem kB_Lexer_begin_80 {N : Nat} {p0 : Nat} {kq25 : Int32 → Int32 → Int32 → Hp → Option (Unit × Hp)} (hm25 : ∀ (l1 : Int32) (l2 : Int32) (l3 : Int32) (H : Hp) (r : Unit × Hp), kq25 l1 l2 l3 H = some r → Sa H r.2) (hk25 : ∀ (l1 : Int32) (l2 : Int32) (l3 : Int32) (H : Hp) (r : Unit × Hp), kq25 l1 l2 l3 H = some r → ab_V y_Lexer_begin { frames := 7, cells := 0, slots := 0, locals := 154 } (po (.returned none) r.2) 0 0 0 0 25 [some (.ref p0), some (.int l1), some (.int l2), some (.int l3)] [] (hpw H)) {l2 : Int32} {l3 : Int32} {H : Hp} {r : Unit × Hp} (hF : B_Lexer_begin_80 N p0 kq25 l2 l3 H = some r) : ab_V y_Lexer_begin { frames := 7, cells := 0, slots := 0, locals := 154 } (po (.returned none) r.2) 0 0 0 0 80 [some (.ref p0), none, some (.int l2), some (.int l3)] [] (hpw H) := by
  unfold B_Lexer_begin_80 at hF
  refine ab_iconst (v := 0) d_Lexer_begin_80 (by decide) ?_
  exact kB_Lexer_begin_81 hm25 hk25 hF
def B_Lexer_begin_25 (N : Nat) (p0 : Nat) : Nat → Int32 → Int32 → Int32 → Hp → Option (Unit × Hp)
  | 0, _, _, _, _ => none
  | n + 1, l1, l2, l3, H =>
    if (6000 : Int32) ≤ l3 then
    B_Lexer_begin_88 N p0 l1 H
    else
    if l1 = (0 : Int32) then
    B_Lexer_begin_88 N p0 l1 H
    else
    ck (H.sh[p0]? = some (1, 0)) <|
    bnd ((H.D p0 1)) fun x55 =>
    if x55 ≤ l2 then
    B_Lexer_begin_88 N p0 l1 H
    else
    bC (F_Lexer_behindToken N p0 l2 H) fun v58 H59 =>
    bC (F_Lexer_behindBlanks N p0 v58 H59) fun v61 H62 =>
    bnd ((H62.D p0 10)) fun x63 =>
    if x63 ≤ (0 : Int32) then
    B_Lexer_begin_80 N p0 (fun l1 l2 l3 H => B_Lexer_begin_25 N p0 n l1 l2 l3 H) v61 l3 H62
    else
    rf (H62.P p0 6) fun a65 =>
    bnd ((H62.D p0 10)) fun x67 =>
    ar H62 100 a65 fun n68 =>
    ck (inb (x67 - (1 : Int32)) n68) <|
    bnd ((H62.D a65 ((x67 - (1 : Int32))).toNatClampNeg)) fun x71 =>
    if x71 = (1 : Int32) then
    B_Lexer_begin_80 N p0 (fun l1 l2 l3 H => B_Lexer_begin_25 N p0 n l1 l2 l3 H) v61 l3 H62
    else
    B_Lexer_begin_81 N p0 (fun l1 l2 l3 H => B_Lexer_begin_25 N p0 n l1 l2 l3 H) v61 l3 1 H62
termination_by structural n => n
set_option maxRecDepth 20000 in
set_option maxHeartbeats 2000000 in
theorem mB_Lexer_begin_25 {N : Nat} {p0 : Nat} : ∀ (n : Nat) (l1 : Int32) (l2 : Int32) (l3 : Int32) (H : Hp) (r : Unit × Hp), B_Lexer_begin_25 N p0 n l1 l2 l3 H = some r → Sa H r.2 := by
  intro n
  induction n with
  | zero => intro l1 l2 l3 H r hF; rw [B_Lexer_begin_25] at hF; cases hF
  | succ n ih =>
    intro l1 l2 l3 H r hF
    rw [B_Lexer_begin_25] at hF
    have hm := Sa.rf H
    rcases ite_s hF with ⟨q_16, hG⟩ | ⟨q_16, hG⟩
    · clear hF
      exact hm.tr (mB_Lexer_begin_88 hG)
    · clear hF
      rcases ite_s hG with ⟨q_17, hF⟩ | ⟨q_17, hF⟩
      · clear hG
        exact hm.tr (mB_Lexer_begin_88 hF)
      · clear hG
        obtain ⟨q75, hG⟩ := ck_s hF; clear hF
        obtain ⟨x76, -, hF⟩ := bnd_g hG; clear hG
        rcases ite_s hF with ⟨q_18, hG⟩ | ⟨q_18, hG⟩
        · clear hF
          exact hm.tr (mB_Lexer_begin_88 hG)
        · clear hF
          obtain ⟨v79, H80, z78, hF⟩ := bC_s hG; clear hG
          replace hm : Sa H H80 := hm.tr (m_Lexer_behindToken z78)
          obtain ⟨v82, H83, z81, hG⟩ := bC_s hF; clear hF
          replace hm : Sa H H83 := hm.tr (m_Lexer_behindBlanks z81)
          obtain ⟨x84, -, hF⟩ := bnd_g hG; clear hG
          rcases ite_s hF with ⟨q_21, hG⟩ | ⟨q_21, hG⟩
          · clear hF
            exact hm.tr (mB_Lexer_begin_80 ih hG)
          · clear hF
            obtain ⟨a86, e87, hF⟩ := rf_s hG; clear hG
            obtain ⟨x88, -, hG⟩ := bnd_g hF; clear hF
            obtain ⟨n89, q90, hF⟩ := ar_s hG; clear hG
            obtain ⟨q91, hG⟩ := ck_s hF; clear hF
            obtain ⟨x92, -, hF⟩ := bnd_g hG; clear hG
            rcases ite_s hF with ⟨q_22, hG⟩ | ⟨q_22, hG⟩
            · clear hF
              exact hm.tr (mB_Lexer_begin_80 ih hG)
            · clear hF
              exact hm.tr (mB_Lexer_begin_81 ih hG)
set_option maxRecDepth 20000 in
set_option maxHeartbeats 2000000 in
theorem kB_Lexer_begin_25 {N : Nat} {p0 : Nat} : ∀ (n : Nat) (l1 : Int32) (l2 : Int32) (l3 : Int32) (H : Hp) (r : Unit × Hp), B_Lexer_begin_25 N p0 n l1 l2 l3 H = some r → ab_V y_Lexer_begin { frames := 7, cells := 0, slots := 0, locals := 154 } (po (.returned none) r.2) 0 0 0 0 25 [some (.ref p0), some (.int l1), some (.int l2), some (.int l3)] [] (hpw H) := by
  intro n
  induction n with
  | zero => intro l1 l2 l3 H r hF; rw [B_Lexer_begin_25] at hF; cases hF
  | succ n ih =>
    intro l1 l2 l3 H r hF
    rw [B_Lexer_begin_25] at hF
    refine ab_iload_n d_Lexer_begin_25 rfl rfl ?_
    refine ab_sipush (v := 6000) d_Lexer_begin_26 (by decide) ?_
    refine ab_icmp_ge (tgt := 88) d_Lexer_begin_29 (by decide) (fun q8 => ?_) (fun q8 => ?_)
    · rw [if_pos q8] at hF
      refine ab_le (lv' := [some (.ref p0), some (.int l1), none, none]) ⟨rfl, ⟨rfl, trivial⟩⟩ ?_
      exact kB_Lexer_begin_88 hF
    · rw [if_neg q8] at hF
      refine ab_iload_n d_Lexer_begin_32 rfl rfl ?_
      refine ab_if_eq (tgt := 88) d_Lexer_begin_33 (by decide) (fun q53 => ?_) (fun q53 => ?_)
      · rw [if_pos q53] at hF
        refine ab_le (lv' := [some (.ref p0), some (.int l1), none, none]) ⟨rfl, ⟨rfl, trivial⟩⟩ ?_
        exact kB_Lexer_begin_88 hF
      · rw [if_neg q53] at hF
        refine ab_iload_n d_Lexer_begin_36 rfl rfl ?_
        refine ab_aload_n d_Lexer_begin_37 rfl rfl rfl ?_
        obtain ⟨q54, hG⟩ := ck_s hF; clear hF
        refine hp_getI (f := 1) d_Lexer_begin_38 q54 (by decide) rfl (by decide) (k1 95 rfl rfl) rfl ?_
        refine ab_topi (fun x55 ex55 => ?_)
        replace hG := bnd_s ex55 hG
        refine ab_icmp_ge (tgt := 88) d_Lexer_begin_41 (by decide) (fun q56 => ?_) (fun q56 => ?_)
        · rw [if_pos q56] at hG
          refine ab_le (lv' := [some (.ref p0), some (.int l1), none, none]) ⟨rfl, ⟨rfl, trivial⟩⟩ ?_
          exact kB_Lexer_begin_88 hG
        · rw [if_neg q56] at hG
          refine ab_aload_n d_Lexer_begin_44 rfl rfl rfl ?_
          refine ab_aload_n d_Lexer_begin_45 rfl rfl rfl ?_
          refine ab_iload_n d_Lexer_begin_46 rfl rfl ?_
          obtain ⟨v58, H59, z57, hF⟩ := bC_s hG; clear hG
          refine hp_callV_a (v := .int v58) (H1 := H59) (As := [.int l2]) (rest := [.ref p0]) d_Lexer_begin_47 (k_Lexer_behindToken z57) (ab_mkC s_Lexer_behindToken (Nat.le_of_ble_eq_true rfl) (Nat.le_of_ble_eq_true rfl) (Nat.le_refl 0) (Nat.le_refl 0)) (k3 230 rfl rfl) i_Lexer_behindToken v_Lexer_behindToken q54 (by decide) rfl rfl (Nat.le_of_ble_eq_true rfl) ?_
          have s_14 : Sa H H59 := (m_Lexer_behindToken z57)
          obtain ⟨v61, H62, z60, hG⟩ := bC_s hF; clear hF
          refine hp_callV_a (v := .int v61) (H1 := H62) (As := [.int v58]) (rest := []) d_Lexer_begin_50 (k_Lexer_behindBlanks z60) (ab_mkC s_Lexer_behindBlanks (Nat.le_of_ble_eq_true rfl) (Nat.le_of_ble_eq_true rfl) (Nat.le_refl 0) (Nat.le_refl 0)) (k3 222 rfl rfl) i_Lexer_behindBlanks v_Lexer_behindBlanks (by rw [(s_14).1]; exact q54) (by decide) rfl rfl (Nat.le_of_ble_eq_true rfl) ?_
          have s_15 : Sa H H62 := (s_14).tr (m_Lexer_behindBlanks z60)
          refine ab_istore_n (lv' := [some (.ref p0), some (.int l1), some (.int v61), some (.int l3)]) d_Lexer_begin_53 rfl (by decide) rfl ?_
          refine ab_aload_n d_Lexer_begin_54 rfl rfl rfl ?_
          refine hp_getI (f := 10) d_Lexer_begin_55 (by rw [(s_15).1]; exact q54) (by decide) rfl (by decide) (k1 112 rfl rfl) rfl ?_
          refine ab_topi (fun x63 ex63 => ?_)
          replace hG := bnd_s ex63 hG
          refine ab_if_le (tgt := 80) d_Lexer_begin_58 (by decide) (fun q64 => ?_) (fun q64 => ?_)
          · rw [if_pos q64] at hG
            refine ab_le (lv' := [some (.ref p0), none, some (.int v61), some (.int l3)]) ⟨rfl, ⟨rfl, ⟨rfl, trivial⟩⟩⟩ ?_
            exact kB_Lexer_begin_80 (mB_Lexer_begin_25 n) ih hG
          · rw [if_neg q64] at hG
            refine ab_aload_n d_Lexer_begin_61 rfl rfl rfl ?_
            obtain ⟨a65, e66, hF⟩ := rf_s hG; clear hG
            refine hp_getR (f := 6) d_Lexer_begin_62 (by rw [(s_15).1]; exact q54) (by decide) rfl (by decide) (k1 108 rfl rfl) rfl e66 ?_
            refine ab_aload_n d_Lexer_begin_65 rfl rfl rfl ?_
            refine hp_getI (f := 10) d_Lexer_begin_66 (by rw [(s_15).1]; exact q54) (by decide) rfl (by decide) (k1 112 rfl rfl) rfl ?_
            refine ab_topi (fun x67 ex67 => ?_)
            replace hF := bnd_s ex67 hF
            refine ab_iconst (v := 1) d_Lexer_begin_69 (by decide) ?_
            refine ab_isub d_Lexer_begin_70 ?_
            obtain ⟨n68, q69, hG⟩ := ar_s hF; clear hF
            rw [(s_15).1] at q69
            obtain ⟨q70, hF⟩ := ck_s hG; clear hG
            refine hp_iald d_Lexer_begin_71 tI (by rw [(s_15).1]; exact q69) q70 ?_
            refine ab_topi (fun x71 ex71 => ?_)
            replace hF := bnd_s ex71 hF
            refine ab_iconst (v := 1) d_Lexer_begin_72 (by decide) ?_
            refine ab_icmp_eq (tgt := 80) d_Lexer_begin_73 (by decide) (fun q72 => ?_) (fun q72 => ?_)
            · rw [if_pos q72] at hF
              refine ab_le (lv' := [some (.ref p0), none, some (.int v61), some (.int l3)]) ⟨rfl, ⟨rfl, ⟨rfl, trivial⟩⟩⟩ ?_
              exact kB_Lexer_begin_80 (mB_Lexer_begin_25 n) ih hF
            · rw [if_neg q72] at hF
              refine ab_iconst (v := 1) d_Lexer_begin_76 (by decide) ?_
              refine ab_goto (tgt := 81) d_Lexer_begin_77 (by decide) ?_
              refine ab_le (lv' := [some (.ref p0), none, some (.int v61), some (.int l3)]) ⟨rfl, ⟨rfl, ⟨rfl, trivial⟩⟩⟩ ?_
              exact kB_Lexer_begin_81 (mB_Lexer_begin_25 n) ih hF
def F_Lexer_begin (N : Nat) (p0 : Nat) (H : Hp) : Option (Unit × Hp) :=
    ck (H.sh[p0]? = some (1, 0)) <|
    bnd (H.sD p0 10 (0 : Int32)) fun H2 =>
    bnd (H2.sD p0 4 (0 : Int32)) fun H3 =>
    bnd (H3.sD p0 5 (0 : Int32)) fun H4 =>
    bC (F_Lexer_behindBlanks N p0 (0 : Int32) H4) fun v6 H7 =>
    B_Lexer_begin_25 N p0 N 1 v6 0 H7
set_option maxRecDepth 20000 in
set_option maxHeartbeats 2000000 in
theorem m_Lexer_begin {N : Nat} {p0 : Nat} {H : Hp} {r : Unit × Hp} (hF : F_Lexer_begin N p0 H = some r) : Sa H r.2 := by
  unfold F_Lexer_begin at hF
  have hm := Sa.rf H
  obtain ⟨q94, hG⟩ := ck_s hF; clear hF
  obtain ⟨H95, eH95, hF⟩ := bnd_g hG; clear hG
  replace hm : Sa H H95 := by rw [eH95]; exact hm
  obtain ⟨H96, eH96, hG⟩ := bnd_g hF; clear hF
  replace hm : Sa H H96 := by rw [eH96]; exact hm
  obtain ⟨H97, eH97, hF⟩ := bnd_g hG; clear hG
  replace hm : Sa H H97 := by rw [eH97]; exact hm
  obtain ⟨v99, H100, z98, hG⟩ := bC_s hF; clear hF
  replace hm : Sa H H100 := hm.tr (m_Lexer_behindBlanks z98)
  exact hm.tr (mB_Lexer_begin_25 N 1 v99 0 H100 r hG)
set_option maxRecDepth 20000 in
set_option maxHeartbeats 2000000 in
theorem k_Lexer_begin {N : Nat} {p0 : Nat} {H : Hp} {r : Unit × Hp} (hF : F_Lexer_begin N p0 H = some r) : ab_M y_Lexer_begin { frames := 7, cells := 0, slots := 0, locals := 154 } [.ref p0] (hpw H) (po (.returned none) r.2) := by
  unfold F_Lexer_begin at hF
  refine ab_of2 (lv := [some (.ref p0), none, none, none]) 3 rfl rfl (Nat.le_of_ble_eq_true rfl) ?_
  refine ab_aload_n d_Lexer_begin_0 rfl rfl rfl ?_
  refine ab_iconst (v := 0) d_Lexer_begin_1 (by decide) ?_
  obtain ⟨q1, hG⟩ := ck_s hF; clear hF
  refine hp_putI (v := 0) (f := 10) d_Lexer_begin_2 q1 (by decide) rfl (by decide) (k1 112 rfl rfl) rfl rfl (fun _ => rfl) (fun _ => rfl) rfl ?_
  refine hp_gen (fun H2 eH2 => ?_)
  replace hG := bnd_s eH2 hG
  have s_1 : Sa H H2 := by rw [eH2]; exact Sa.rf _
  refine ab_aload_n d_Lexer_begin_5 rfl rfl rfl ?_
  refine ab_iconst (v := 0) d_Lexer_begin_6 (by decide) ?_
  refine hp_putI (v := 0) (f := 4) d_Lexer_begin_7 (by rw [(s_1).1]; exact q1) (by decide) rfl (by decide) (k1 104 rfl rfl) rfl rfl (fun _ => rfl) (fun _ => rfl) rfl ?_
  refine hp_gen (fun H3 eH3 => ?_)
  replace hG := bnd_s eH3 hG
  have s_2 : Sa H H3 := by rw [eH3]; exact s_1
  refine ab_aload_n d_Lexer_begin_10 rfl rfl rfl ?_
  refine ab_iconst (v := 0) d_Lexer_begin_11 (by decide) ?_
  refine hp_putI (v := 0) (f := 5) d_Lexer_begin_12 (by rw [(s_2).1]; exact q1) (by decide) rfl (by decide) (k1 106 rfl rfl) rfl rfl (fun _ => rfl) (fun _ => rfl) rfl ?_
  refine hp_gen (fun H4 eH4 => ?_)
  replace hG := bnd_s eH4 hG
  have s_3 : Sa H H4 := by rw [eH4]; exact s_2
  refine ab_iconst (v := 1) d_Lexer_begin_15 (by decide) ?_
  refine ab_istore_n (lv' := [some (.ref p0), some (.int 1), none, none]) d_Lexer_begin_16 rfl (by decide) rfl ?_
  refine ab_aload_n d_Lexer_begin_17 rfl rfl rfl ?_
  refine ab_iconst (v := 0) d_Lexer_begin_18 (by decide) ?_
  obtain ⟨v6, H7, z5, hF⟩ := bC_s hG; clear hG
  refine hp_callV_a (v := .int v6) (H1 := H7) (As := [.int 0]) (rest := []) d_Lexer_begin_19 (k_Lexer_behindBlanks z5) (ab_mkC s_Lexer_behindBlanks (Nat.le_of_ble_eq_true rfl) (Nat.le_of_ble_eq_true rfl) (Nat.le_refl 0) (Nat.le_refl 0)) (k3 222 rfl rfl) i_Lexer_behindBlanks v_Lexer_behindBlanks (by rw [(s_3).1]; exact q1) (by decide) rfl rfl (Nat.le_of_ble_eq_true rfl) ?_
  have s_4 : Sa H H7 := (s_3).tr (m_Lexer_behindBlanks z5)
  refine ab_istore_n (lv' := [some (.ref p0), some (.int 1), some (.int v6), none]) d_Lexer_begin_22 rfl (by decide) rfl ?_
  refine ab_iconst (v := 0) d_Lexer_begin_23 (by decide) ?_
  refine ab_istore_n (lv' := [some (.ref p0), some (.int 1), some (.int v6), some (.int 0)]) d_Lexer_begin_24 rfl (by decide) rfl ?_
  exact kB_Lexer_begin_25 N 1 v6 0 H7 r hF
def y_Lexer_refuse : ab_Y := (⟨"WorldEngine$Lexer", "refuse", "(II)V"⟩, prog_3_method_16_code, 3, none, [])
theorem d_Lexer_refuse_0 : decode y_Lexer_refuse.2.1 0 = .ok (.aload_n 0, 1) := by decide +kernel
theorem d_Lexer_refuse_1 : decode y_Lexer_refuse.2.1 1 = .ok (.iload_n 1, 1) := by decide +kernel
theorem d_Lexer_refuse_2 : decode y_Lexer_refuse.2.1 2 = .ok (.putfield 48, 3) := by decide +kernel
theorem d_Lexer_refuse_5 : decode y_Lexer_refuse.2.1 5 = .ok (.aload_n 0, 1) := by decide +kernel
theorem d_Lexer_refuse_6 : decode y_Lexer_refuse.2.1 6 = .ok (.iload_n 2, 1) := by decide +kernel
theorem d_Lexer_refuse_7 : decode y_Lexer_refuse.2.1 7 = .ok (.putfield 51, 3) := by decide +kernel
theorem d_Lexer_refuse_10 : decode y_Lexer_refuse.2.1 10 = .ok (.new 127, 3) := by decide +kernel
theorem d_Lexer_refuse_13 : decode y_Lexer_refuse.2.1 13 = .ok (.dup, 1) := by decide +kernel
theorem d_Lexer_refuse_14 : decode y_Lexer_refuse.2.1 14 = .ok (.ldc 129, 2) := by decide +kernel
theorem d_Lexer_refuse_16 : decode y_Lexer_refuse.2.1 16 = .ok (.invokespecial 131, 3) := by decide +kernel
theorem d_Lexer_refuse_19 : decode y_Lexer_refuse.2.1 19 = .ok (.athrow, 1) := by decide +kernel
theorem s_Lexer_refuse : ab_Stat y_Lexer_refuse 2 := ⟨(k4 100 rfl rfl), (k1 2 rfl rfl), ⟨by decide, by decide⟩, by decide +kernel⟩
theorem i_Lexer_refuse : Cond.instanceMethod y_Lexer_refuse.1 ∈ ab_T := (k4 98 rfl rfl)
theorem v_Lexer_refuse : Cond.selects "WorldEngine$Lexer" y_Lexer_refuse.1 y_Lexer_refuse.1 ∈ ab_T := (k4 99 rfl rfl)
set_option maxRecDepth 20000 in
theorem ow_Lexer_131 : ∀ a ∈ Bundle.ownAtoms "WorldEngine$Lexer" 131 "java/lang/IllegalStateException" ["java/lang/RuntimeException", "java/lang/Exception"], a ∈ ab_T ∨ a = .laysStatic Bundle.tN "UNASSIGNED_STACK" Bundle.steD ∨ a = .laysStatic Bundle.tN "SUPPRESSED_SENTINEL" Bundle.listD ∨ a = .isRef (.static Bundle.tN "UNASSIGNED_STACK" Bundle.steD) ∨ a = .isRef (.static Bundle.tN "SUPPRESSED_SENTINEL" Bundle.listD) := List.forall_mem_cons.mpr ⟨Or.inl (k1 24 rfl rfl), List.forall_mem_cons.mpr ⟨Or.inl (k4 123 rfl rfl), List.forall_mem_cons.mpr ⟨Or.inl (k4 132 rfl rfl), List.forall_mem_cons.mpr ⟨Or.inl (k4 135 rfl rfl), List.forall_mem_cons.mpr ⟨Or.inl (k4 138 rfl rfl), List.forall_mem_cons.mpr ⟨Or.inl (k4 140 rfl rfl), List.forall_mem_cons.mpr ⟨Or.inl (k4 124 rfl rfl), List.forall_mem_cons.mpr ⟨Or.inl (k4 125 rfl rfl), List.forall_mem_cons.mpr ⟨Or.inl (k1 37 rfl rfl), List.forall_mem_cons.mpr ⟨Or.inl (k1 38 rfl rfl), List.forall_mem_cons.mpr ⟨Or.inl (k4 126 rfl rfl), List.forall_mem_cons.mpr ⟨Or.inl (k4 131 rfl rfl), List.forall_mem_cons.mpr ⟨Or.inl (k4 136 rfl rfl), List.forall_mem_cons.mpr ⟨Or.inl (k4 156 rfl rfl), List.forall_mem_cons.mpr ⟨Or.inl (k4 113 rfl rfl), List.forall_mem_cons.mpr ⟨Or.inl (k4 157 rfl rfl), List.forall_mem_cons.mpr ⟨Or.inl (k4 115 rfl rfl), List.forall_mem_cons.mpr ⟨Or.inl (k4 158 rfl rfl), List.forall_mem_cons.mpr ⟨Or.inl (k4 117 rfl rfl), List.forall_mem_cons.mpr ⟨Or.inl (k4 127 rfl rfl), List.forall_mem_cons.mpr ⟨Or.inr (Or.inl rfl), List.forall_mem_cons.mpr ⟨Or.inl (k4 129 rfl rfl), List.forall_mem_cons.mpr ⟨Or.inr (Or.inr (Or.inl rfl)), List.forall_mem_cons.mpr ⟨Or.inl (k4 119 rfl rfl), List.forall_mem_cons.mpr ⟨Or.inl (k4 152 rfl rfl), List.forall_mem_cons.mpr ⟨Or.inl (k4 153 rfl rfl), List.forall_mem_cons.mpr ⟨Or.inl (k4 155 rfl rfl), List.forall_mem_cons.mpr ⟨Or.inl (k4 119 rfl rfl), List.forall_mem_cons.mpr ⟨Or.inl (k4 143 rfl rfl), List.forall_mem_cons.mpr ⟨Or.inl (k4 144 rfl rfl), List.forall_mem_cons.mpr ⟨Or.inl (k4 145 rfl rfl), List.forall_mem_cons.mpr ⟨Or.inl (k4 146 rfl rfl), List.forall_mem_cons.mpr ⟨Or.inl (k4 105 rfl rfl), List.forall_mem_cons.mpr ⟨Or.inl (k4 146 rfl rfl), List.forall_mem_cons.mpr ⟨Or.inl (k4 147 rfl rfl), List.forall_mem_cons.mpr ⟨Or.inl (k4 148 rfl rfl), List.forall_mem_cons.mpr ⟨Or.inl (k4 149 rfl rfl), List.forall_mem_cons.mpr ⟨Or.inl (k4 107 rfl rfl), List.forall_mem_cons.mpr ⟨Or.inl (k4 149 rfl rfl), List.forall_mem_cons.mpr ⟨Or.inl (k4 150 rfl rfl), List.forall_mem_cons.mpr ⟨Or.inl (k4 151 rfl rfl), List.forall_mem_cons.mpr ⟨Or.inl (k4 152 rfl rfl), List.forall_mem_cons.mpr ⟨Or.inl (k4 109 rfl rfl), List.forall_mem_cons.mpr ⟨Or.inl (k4 142 rfl rfl), List.forall_mem_cons.mpr ⟨Or.inl (k4 102 rfl rfl), List.forall_mem_cons.mpr ⟨Or.inl (k4 103 rfl rfl), List.forall_mem_cons.mpr ⟨Or.inl (k4 110 rfl rfl), List.forall_mem_cons.mpr ⟨Or.inl (k4 111 rfl rfl), List.forall_mem_cons.mpr ⟨Or.inl (k4 112 rfl rfl), List.forall_mem_cons.mpr ⟨Or.inl (k4 114 rfl rfl), List.forall_mem_cons.mpr ⟨Or.inl (k4 116 rfl rfl), List.forall_mem_cons.mpr ⟨Or.inl (k4 118 rfl rfl), List.forall_mem_cons.mpr ⟨Or.inr (Or.inr (Or.inr (Or.inl rfl))), List.forall_mem_cons.mpr ⟨Or.inr (Or.inr (Or.inr (Or.inr rfl))), List.forall_mem_cons.mpr ⟨Or.inl (k4 122 rfl rfl), List.forall_mem_cons.mpr ⟨Or.inl (k4 121 rfl rfl), List.forall_mem_cons.mpr ⟨Or.inl (k4 120 rfl rfl), fun _ h => absurd h List.not_mem_nil⟩⟩⟩⟩⟩⟩⟩⟩⟩⟩⟩⟩⟩⟩⟩⟩⟩⟩⟩⟩⟩⟩⟩⟩⟩⟩⟩⟩⟩⟩⟩⟩⟩⟩⟩⟩⟩⟩⟩⟩⟩⟩⟩⟩⟩⟩⟩⟩⟩⟩⟩⟩⟩⟩⟩⟩⟩
def F_Lexer_refuse (N : Nat) (p0 : Nat) (p1 : Int32) (p2 : Int32) (H : Hp) : Option ((Ot Unit) × Hp) :=
    ck (H.sh[p0]? = some (1, 0)) <|
    bnd (H.sD p0 4 p1) fun H2 =>
    bnd (H2.sD p0 5 p2) fun H3 =>
    some (.inr H3.sh.length, H3.nx (17, 0) 6)
set_option maxRecDepth 20000 in
set_option maxHeartbeats 2000000 in
theorem m_Lexer_refuse {N : Nat} {p0 : Nat} {p1 : Int32} {p2 : Int32} {H : Hp} {r : (Ot Unit) × Hp} (hF : F_Lexer_refuse N p0 p1 p2 H = some r) : Mo H r.2 := by
  unfold F_Lexer_refuse at hF
  have hm := Mo.rf H
  obtain ⟨q5, hG⟩ := ck_s hF; clear hF
  obtain ⟨H6, eH6, hF⟩ := bnd_g hG; clear hG
  replace hm : Mo H H6 := by rw [eH6]; exact hm
  obtain ⟨H7, eH7, hG⟩ := bnd_g hF; clear hF
  replace hm : Mo H H7 := by rw [eH7]; exact hm
  cases hG
  exact hm.tr (Mo.nx _ _ _)
set_option maxRecDepth 20000 in
set_option maxHeartbeats 2000000 in
theorem k_Lexer_refuse {N : Nat} {p0 : Nat} {p1 : Int32} {p2 : Int32} {H : Hp} {r : (Ot Unit) × Hp} {C Sl : Nat} (hF : F_Lexer_refuse N p0 p1 p2 H = some r) (hC : r.2.sh.length ≤ H.sh.length + C) (hS : r.2.sl ≤ H.sl + Sl) : ab_M y_Lexer_refuse { frames := 6, cells := C, slots := Sl, locals := 100 } [.ref p0, .int p1, .int p2] (hpw H) (po (oV r.1) r.2) := by
  unfold F_Lexer_refuse at hF
  obtain ⟨c0, e0⟩ : ∃ q, q = H.sh.length := ⟨_, rfl⟩
  obtain ⟨s0, e1⟩ : ∃ q, q = H.sl := ⟨_, rfl⟩
  rw [← e0] at hC
  rw [← e1] at hS
  have hc0 : c0 ≤ H.sh.length := Nat.le_of_eq e0
  have hs0 : s0 ≤ H.sl := Nat.le_of_eq e1
  have hcc : H.sh.length ≤ c0 + C := by omega
  have hss : H.sl ≤ s0 + Sl := by omega
  refine ab_of2 (lv := [some (.ref p0), some (.int p1), some (.int p2)]) 0 rfl rfl (Nat.le_of_ble_eq_true rfl) ?_
  refine ab_widen (cells' := H.sh.length - c0) (slots' := H.sl - s0) (Nat.zero_le _) (Nat.zero_le _) ?_
  refine ab_aload_n d_Lexer_refuse_0 rfl rfl rfl ?_
  refine ab_iload_n d_Lexer_refuse_1 rfl rfl ?_
  obtain ⟨q1, hG⟩ := ck_s hF; clear hF
  refine hp_putI (v := p1) (f := 4) d_Lexer_refuse_2 q1 (by decide) rfl (by decide) (k1 104 rfl rfl) rfl rfl (fun _ => rfl) (fun _ => rfl) rfl ?_
  refine hp_gen (fun H2 eH2 => ?_)
  replace hG := bnd_s eH2 hG
  have s_1 : Sa H H2 := by rw [eH2]; exact Sa.rf _
  refine ab_aload_n d_Lexer_refuse_5 rfl rfl rfl ?_
  refine ab_iload_n d_Lexer_refuse_6 rfl rfl ?_
  refine hp_putI (v := p2) (f := 5) d_Lexer_refuse_7 (by rw [(s_1).1]; exact q1) (by decide) rfl (by decide) (k1 106 rfl rfl) rfl rfl (fun _ => rfl) (fun _ => rfl) rfl ?_
  refine hp_gen (fun H3 eH3 => ?_)
  replace hG := bnd_s eH3 hG
  have s_2 : Sa H H3 := by rw [eH3]; exact s_1
  obtain ⟨H4, eH4⟩ : ∃ K, K = H3.nx (17, 0) 6 := ⟨_, rfl⟩
  rw [← eH4] at hG
  cases hG
  have bx : H4.sh.length = H3.sh.length + 1 := by rw [eH4]; simp [Hp.nx, mkH_sh]
  have by_ : H4.sl = H3.sl + 6 := by rw [eH4]; rfl
  have hC9 : H4.sh.length ≤ c0 + C := hC
  have hS9 : H4.sl ≤ s0 + Sl := hS
  have be := congrArg List.length (s_2).1
  have bfx := (s_2).2
  exact hp_throw (ci := 17) (names := ["java/lang/RuntimeException", "java/lang/Exception"]) (k0 := 3) d_Lexer_refuse_10 d_Lexer_refuse_13 d_Lexer_refuse_14 d_Lexer_refuse_16 d_Lexer_refuse_19 rfl (k4 101 rfl rfl) (k4 102 rfl rfl) (k1 27 rfl rfl) (by decide +kernel) (by decide +kernel) ow_Lexer_131 (List.mem_of_getElem? (i := 3) rfl) rfl rfl rfl rfl (by show _ ≤ C; omega) (by show _ ≤ Sl; omega) (by show _ ≤ C; omega) (by show _ ≤ Sl; omega) (Nat.le_of_ble_eq_true rfl) (Nat.le_of_ble_eq_true rfl) (by decide) rfl (by rw [← eH4]; exact ⟨rfl, rfl⟩)
def y_Lexer_advance : ab_Y := (⟨"WorldEngine$Lexer", "advance", "()V"⟩, prog_3_method_15_code, 1, none, [])
theorem d_Lexer_advance_0 : decode y_Lexer_advance.2.1 0 = .ok (.aload_n 0, 1) := by decide +kernel
theorem d_Lexer_advance_1 : decode y_Lexer_advance.2.1 1 = .ok (.getfield 65, 3) := by decide +kernel
theorem d_Lexer_advance_4 : decode y_Lexer_advance.2.1 4 = .ok (.iconst 1, 1) := by decide +kernel
theorem d_Lexer_advance_5 : decode y_Lexer_advance.2.1 5 = .ok (.iadd, 1) := by decide +kernel
theorem d_Lexer_advance_6 : decode y_Lexer_advance.2.1 6 = .ok (.aload_n 0, 1) := by decide +kernel
theorem d_Lexer_advance_7 : decode y_Lexer_advance.2.1 7 = .ok (.getfield 45, 3) := by decide +kernel
theorem d_Lexer_advance_10 : decode y_Lexer_advance.2.1 10 = .ok (.if_icmp .ge 39, 3) := by decide +kernel
theorem d_Lexer_advance_13 : decode y_Lexer_advance.2.1 13 = .ok (.aload_n 0, 1) := by decide +kernel
theorem d_Lexer_advance_14 : decode y_Lexer_advance.2.1 14 = .ok (.dup, 1) := by decide +kernel
theorem d_Lexer_advance_15 : decode y_Lexer_advance.2.1 15 = .ok (.getfield 65, 3) := by decide +kernel
theorem d_Lexer_advance_18 : decode y_Lexer_advance.2.1 18 = .ok (.iconst 1, 1) := by decide +kernel
theorem d_Lexer_advance_19 : decode y_Lexer_advance.2.1 19 = .ok (.iadd, 1) := by decide +kernel
theorem d_Lexer_advance_20 : decode y_Lexer_advance.2.1 20 = .ok (.putfield 65, 3) := by decide +kernel
theorem d_Lexer_advance_23 : decode y_Lexer_advance.2.1 23 = .ok (.aload_n 0, 1) := by decide +kernel
theorem d_Lexer_advance_24 : decode y_Lexer_advance.2.1 24 = .ok (.aload_n 0, 1) := by decide +kernel
theorem d_Lexer_advance_25 : decode y_Lexer_advance.2.1 25 = .ok (.getfield 13, 3) := by decide +kernel
theorem d_Lexer_advance_28 : decode y_Lexer_advance.2.1 28 = .ok (.aload_n 0, 1) := by decide +kernel
theorem d_Lexer_advance_29 : decode y_Lexer_advance.2.1 29 = .ok (.getfield 65, 3) := by decide +kernel
theorem d_Lexer_advance_32 : decode y_Lexer_advance.2.1 32 = .ok (.iaload, 1) := by decide +kernel
theorem d_Lexer_advance_33 : decode y_Lexer_advance.2.1 33 = .ok (.putfield 68, 3) := by decide +kernel
theorem d_Lexer_advance_36 : decode y_Lexer_advance.2.1 36 = .ok (.aload_n 0, 1) := by decide +kernel
theorem d_Lexer_advance_37 : decode y_Lexer_advance.2.1 37 = .ok (.aload_n 0, 1) := by decide +kernel
theorem d_Lexer_advance_38 : decode y_Lexer_advance.2.1 38 = .ok (.getfield 17, 3) := by decide +kernel
theorem d_Lexer_advance_41 : decode y_Lexer_advance.2.1 41 = .ok (.aload_n 0, 1) := by decide +kernel
theorem d_Lexer_advance_42 : decode y_Lexer_advance.2.1 42 = .ok (.getfield 65, 3) := by decide +kernel
theorem d_Lexer_advance_45 : decode y_Lexer_advance.2.1 45 = .ok (.iaload, 1) := by decide +kernel
theorem d_Lexer_advance_46 : decode y_Lexer_advance.2.1 46 = .ok (.putfield 71, 3) := by decide +kernel
theorem d_Lexer_advance_49 : decode y_Lexer_advance.2.1 49 = .ok (.return_, 1) := by decide +kernel
theorem s_Lexer_advance : ab_Stat y_Lexer_advance 0 := ⟨(k4 170 rfl rfl), (k1 2 rfl rfl), ⟨by decide, by decide⟩, by decide +kernel⟩
theorem i_Lexer_advance : Cond.instanceMethod y_Lexer_advance.1 ∈ ab_T := (k4 168 rfl rfl)
theorem v_Lexer_advance : Cond.selects "WorldEngine$Lexer" y_Lexer_advance.1 y_Lexer_advance.1 ∈ ab_T := (k4 169 rfl rfl)
def F_Lexer_advance (N : Nat) (p0 : Nat) (H : Hp) : Option (Unit × Hp) :=
    ck (H.sh[p0]? = some (1, 0)) <|
    bnd ((H.D p0 11)) fun x2 =>
    bnd ((H.D p0 10)) fun x3 =>
    if x3 ≤ (x2 + (1 : Int32)) then
    some ((), H)
    else
    bnd ((H.D p0 11)) fun x5 =>
    bnd (H.sD p0 11 (x5 + (1 : Int32))) fun H6 =>
    rf (H6.P p0 6) fun a7 =>
    bnd ((H6.D p0 11)) fun x9 =>
    ar H6 100 a7 fun n10 =>
    ck (inb x9 n10) <|
    bnd ((H6.D a7 (x9).toNatClampNeg)) fun x13 =>
    bnd (H6.sD p0 2 x13) fun H14 =>
    rf (H14.P p0 7) fun a15 =>
    bnd ((H14.D p0 11)) fun x17 =>
    ar H14 100 a15 fun n18 =>
    ck (inb x17 n18) <|
    bnd ((H14.D a15 (x17).toNatClampNeg)) fun x21 =>
    bnd (H14.sD p0 3 x21) fun H22 =>
    some ((), H22)
set_option maxRecDepth 20000 in
set_option maxHeartbeats 2000000 in
theorem m_Lexer_advance {N : Nat} {p0 : Nat} {H : Hp} {r : Unit × Hp} (hF : F_Lexer_advance N p0 H = some r) : Sa H r.2 := by
  unfold F_Lexer_advance at hF
  have hm := Sa.rf H
  obtain ⟨q23, hG⟩ := ck_s hF; clear hF
  obtain ⟨x24, -, hF⟩ := bnd_g hG; clear hG
  obtain ⟨x25, -, hG⟩ := bnd_g hF; clear hF
  rcases ite_s hG with ⟨q_4, hF⟩ | ⟨q_4, hF⟩
  · clear hG
    have hr := Option.some.inj hF; subst hr
    exact hm
  · clear hG
    obtain ⟨x27, -, hG⟩ := bnd_g hF; clear hF
    obtain ⟨H28, eH28, hF⟩ := bnd_g hG; clear hG
    replace hm : Sa H H28 := by rw [eH28]; exact hm
    obtain ⟨a29, e30, hG⟩ := rf_s hF; clear hF
    obtain ⟨x31, -, hF⟩ := bnd_g hG; clear hG
    obtain ⟨n32, q33, hG⟩ := ar_s hF; clear hF
    obtain ⟨q34, hF⟩ := ck_s hG; clear hG
    obtain ⟨x35, -, hG⟩ := bnd_g hF; clear hF
    obtain ⟨H36, eH36, hF⟩ := bnd_g hG; clear hG
    replace hm : Sa H H36 := by rw [eH36]; exact hm
    obtain ⟨a37, e38, hG⟩ := rf_s hF; clear hF
    obtain ⟨x39, -, hF⟩ := bnd_g hG; clear hG
    obtain ⟨n40, q41, hG⟩ := ar_s hF; clear hF
    obtain ⟨q42, hF⟩ := ck_s hG; clear hG
    obtain ⟨x43, -, hG⟩ := bnd_g hF; clear hF
    obtain ⟨H44, eH44, hF⟩ := bnd_g hG; clear hG
    replace hm : Sa H H44 := by rw [eH44]; exact hm
    have hr := Option.some.inj hF; subst hr
    exact hm
set_option maxRecDepth 20000 in
set_option maxHeartbeats 2000000 in
theorem k_Lexer_advance {N : Nat} {p0 : Nat} {H : Hp} {r : Unit × Hp} (hF : F_Lexer_advance N p0 H = some r) : ab_M y_Lexer_advance { frames := 0, cells := 0, slots := 0, locals := 0 } [.ref p0] (hpw H) (po (.returned none) r.2) := by
  unfold F_Lexer_advance at hF
  refine ab_of2 (lv := [some (.ref p0)]) 0 rfl rfl (Nat.le_of_ble_eq_true rfl) ?_
  refine ab_aload_n d_Lexer_advance_0 rfl rfl rfl ?_
  obtain ⟨q1, hG⟩ := ck_s hF; clear hF
  refine hp_getI (f := 11) d_Lexer_advance_1 q1 (by decide) rfl (by decide) (k1 113 rfl rfl) rfl ?_
  refine ab_topi (fun x2 ex2 => ?_)
  replace hG := bnd_s ex2 hG
  refine ab_iconst (v := 1) d_Lexer_advance_4 (by decide) ?_
  refine ab_iadd d_Lexer_advance_5 ?_
  refine ab_aload_n d_Lexer_advance_6 rfl rfl rfl ?_
  refine hp_getI (f := 10) d_Lexer_advance_7 q1 (by decide) rfl (by decide) (k1 112 rfl rfl) rfl ?_
  refine ab_topi (fun x3 ex3 => ?_)
  replace hG := bnd_s ex3 hG
  refine ab_icmp_ge (tgt := 49) d_Lexer_advance_10 (by decide) (fun q4 => ?_) (fun q4 => ?_)
  · rw [if_pos q4] at hG
    exact ab_vret d_Lexer_advance_49 rfl (Nat.le_refl _) (Nat.le_refl _) (by have hr := Option.some.inj hG; subst hr; exact ⟨rfl, rfl⟩)
  · rw [if_neg q4] at hG
    refine ab_aload_n d_Lexer_advance_13 rfl rfl rfl ?_
    refine ab_dup d_Lexer_advance_14 rfl ?_
    refine hp_getI (f := 11) d_Lexer_advance_15 q1 (by decide) rfl (by decide) (k1 113 rfl rfl) rfl ?_
    refine ab_topi (fun x5 ex5 => ?_)
    replace hG := bnd_s ex5 hG
    refine ab_iconst (v := 1) d_Lexer_advance_18 (by decide) ?_
    refine ab_iadd d_Lexer_advance_19 ?_
    refine hp_putI (v := x5 + (1 : Int32)) (f := 11) d_Lexer_advance_20 q1 (by decide) rfl (by decide) (k1 113 rfl rfl) rfl rfl (fun _ => rfl) (fun _ => rfl) rfl ?_
    refine hp_gen (fun H6 eH6 => ?_)
    replace hG := bnd_s eH6 hG
    have s_1 : Sa H H6 := by rw [eH6]; exact Sa.rf _
    refine ab_aload_n d_Lexer_advance_23 rfl rfl rfl ?_
    refine ab_aload_n d_Lexer_advance_24 rfl rfl rfl ?_
    obtain ⟨a7, e8, hF⟩ := rf_s hG; clear hG
    refine hp_getR (f := 6) d_Lexer_advance_25 (by rw [(s_1).1]; exact q1) (by decide) rfl (by decide) (k1 108 rfl rfl) rfl e8 ?_
    refine ab_aload_n d_Lexer_advance_28 rfl rfl rfl ?_
    refine hp_getI (f := 11) d_Lexer_advance_29 (by rw [(s_1).1]; exact q1) (by decide) rfl (by decide) (k1 113 rfl rfl) rfl ?_
    refine ab_topi (fun x9 ex9 => ?_)
    replace hF := bnd_s ex9 hF
    obtain ⟨n10, q11, hG⟩ := ar_s hF; clear hF
    rw [(s_1).1] at q11
    obtain ⟨q12, hF⟩ := ck_s hG; clear hG
    refine hp_iald d_Lexer_advance_32 tI (by rw [(s_1).1]; exact q11) q12 ?_
    refine ab_topi (fun x13 ex13 => ?_)
    replace hF := bnd_s ex13 hF
    refine hp_putI (v := x13) (f := 2) d_Lexer_advance_33 (by rw [(s_1).1]; exact q1) (by decide) rfl (by decide) (k1 100 rfl rfl) rfl rfl (fun _ => rfl) (fun _ => rfl) rfl ?_
    refine hp_gen (fun H14 eH14 => ?_)
    replace hF := bnd_s eH14 hF
    have s_2 : Sa H H14 := by rw [eH14]; exact s_1
    refine ab_aload_n d_Lexer_advance_36 rfl rfl rfl ?_
    refine ab_aload_n d_Lexer_advance_37 rfl rfl rfl ?_
    obtain ⟨a15, e16, hG⟩ := rf_s hF; clear hF
    refine hp_getR (f := 7) d_Lexer_advance_38 (by rw [(s_2).1]; exact q1) (by decide) rfl (by decide) (k1 109 rfl rfl) rfl e16 ?_
    refine ab_aload_n d_Lexer_advance_41 rfl rfl rfl ?_
    refine hp_getI (f := 11) d_Lexer_advance_42 (by rw [(s_2).1]; exact q1) (by decide) rfl (by decide) (k1 113 rfl rfl) rfl ?_
    refine ab_topi (fun x17 ex17 => ?_)
    replace hG := bnd_s ex17 hG
    obtain ⟨n18, q19, hF⟩ := ar_s hG; clear hG
    rw [(s_2).1] at q19
    obtain ⟨q20, hG⟩ := ck_s hF; clear hF
    refine hp_iald d_Lexer_advance_45 tI (by rw [(s_2).1]; exact q19) q20 ?_
    refine ab_topi (fun x21 ex21 => ?_)
    replace hG := bnd_s ex21 hG
    refine hp_putI (v := x21) (f := 3) d_Lexer_advance_46 (by rw [(s_2).1]; exact q1) (by decide) rfl (by decide) (k1 102 rfl rfl) rfl rfl (fun _ => rfl) (fun _ => rfl) rfl ?_
    refine hp_gen (fun H22 eH22 => ?_)
    replace hG := bnd_s eH22 hG
    have s_3 : Sa H H22 := by rw [eH22]; exact s_2
    exact ab_vret d_Lexer_advance_49 rfl (Nat.le_refl _) (Nat.le_refl _) (by have hr := Option.some.inj hG; subst hr; exact ⟨rfl, rfl⟩)
def y_Reader_beginOne : ab_Y := (⟨"WorldEngine$Reader", "beginOne", "(II)V"⟩, prog_7_method_3_code, 3, none, [])
theorem d_Reader_beginOne_0 : decode y_Reader_beginOne.2.1 0 = .ok (.iload_n 1, 1) := by decide +kernel
theorem d_Reader_beginOne_1 : decode y_Reader_beginOne.2.1 1 = .ok (.iload_n 2, 1) := by decide +kernel
theorem d_Reader_beginOne_2 : decode y_Reader_beginOne.2.1 2 = .ok (.if_icmp .lt 18, 3) := by decide +kernel
theorem d_Reader_beginOne_5 : decode y_Reader_beginOne.2.1 5 = .ok (.aload_n 0, 1) := by decide +kernel
theorem d_Reader_beginOne_6 : decode y_Reader_beginOne.2.1 6 = .ok (.getfield 7, 3) := by decide +kernel
theorem d_Reader_beginOne_9 : decode y_Reader_beginOne.2.1 9 = .ok (.iconst 2, 1) := by decide +kernel
theorem d_Reader_beginOne_10 : decode y_Reader_beginOne.2.1 10 = .ok (.aload_n 0, 1) := by decide +kernel
theorem d_Reader_beginOne_11 : decode y_Reader_beginOne.2.1 11 = .ok (.getfield 7, 3) := by decide +kernel
theorem d_Reader_beginOne_14 : decode y_Reader_beginOne.2.1 14 = .ok (.getfield 65, 3) := by decide +kernel
theorem d_Reader_beginOne_17 : decode y_Reader_beginOne.2.1 17 = .ok (.invokevirtual 68, 3) := by decide +kernel
theorem d_Reader_beginOne_20 : decode y_Reader_beginOne.2.1 20 = .ok (.aload_n 0, 1) := by decide +kernel
theorem d_Reader_beginOne_21 : decode y_Reader_beginOne.2.1 21 = .ok (.getfield 7, 3) := by decide +kernel
theorem d_Reader_beginOne_24 : decode y_Reader_beginOne.2.1 24 = .ok (.invokevirtual 77, 3) := by decide +kernel
theorem d_Reader_beginOne_27 : decode y_Reader_beginOne.2.1 27 = .ok (.return_, 1) := by decide +kernel
theorem s_Reader_beginOne : ab_Stat y_Reader_beginOne 2 := ⟨(k4 96 rfl rfl), (k1 7 rfl rfl), ⟨by decide, by decide⟩, by decide +kernel⟩
theorem i_Reader_beginOne : Cond.instanceMethod y_Reader_beginOne.1 ∈ ab_T := (k4 95 rfl rfl)
theorem v_Reader_beginOne : Cond.selects "WorldEngine$Reader" y_Reader_beginOne.1 y_Reader_beginOne.1 ∈ ab_T := ab_s (List.mem_of_getElem? (i := 9) rfl) rfl
def B_Reader_beginOne_20 (N : Nat) (p0 : Nat) (p1 : Int32) (p2 : Int32)  (H : Hp) : Option ((Ot Unit) × Hp) :=
    ck (H.sh[p0]? = some (5, 0)) <|
    rf (H.P p0 0) fun a3 =>
    ck (H.sh[a3]? = some (1, 0)) <|
    bC (F_Lexer_advance N a3 H) fun v7 H8 =>
    some (.inl (), H8)
set_option maxRecDepth 20000 in
set_option maxHeartbeats 2000000 in
theorem mB_Reader_beginOne_20 {N : Nat} {p0 : Nat} {p1 : Int32} {p2 : Int32}  {H : Hp} {r : (Ot Unit) × Hp} (hF : B_Reader_beginOne_20 N p0 p1 p2  H = some r) : Mo H r.2 := by
  unfold B_Reader_beginOne_20 at hF
  have hm := Mo.rf H
  obtain ⟨q9, hG⟩ := ck_s hF; clear hF
  obtain ⟨a10, e11, hF⟩ := rf_s hG; clear hG
  obtain ⟨q12, hG⟩ := ck_s hF; clear hF
  obtain ⟨v14, H15, z13, hF⟩ := bC_s hG; clear hG
  replace hm : Mo H H15 := hm.tr ((m_Lexer_advance z13)).mo
  have hr := Option.some.inj hF; subst hr
  exact hm
set_option maxRecDepth 20000 in
set_option maxHeartbeats 2000000 in
theorem kB_Reader_beginOne_20 {N : Nat} {p0 : Nat} {p1 : Int32} {p2 : Int32} {c0 s0 C Sl : Nat}  {H : Hp} {r : (Ot Unit) × Hp} (hF : B_Reader_beginOne_20 N p0 p1 p2  H = some r) (hc0 : c0 ≤ H.sh.length) (hs0 : s0 ≤ H.sl) (hcc : H.sh.length ≤ c0 + C) (hss : H.sl ≤ s0 + Sl) (hC : r.2.sh.length ≤ c0 + C) (hS : r.2.sl ≤ s0 + Sl) : ab_V y_Reader_beginOne { frames := 7, cells := C, slots := Sl, locals := 122 } (po (oV r.1) r.2) C Sl (H.sh.length - c0) (H.sl - s0) 20 [some (.ref p0), some (.int p1), some (.int p2)] [] (hpw H) := by
  unfold B_Reader_beginOne_20 at hF
  refine ab_aload_n d_Reader_beginOne_20 rfl rfl rfl ?_
  obtain ⟨q2, hG⟩ := ck_s hF; clear hF
  obtain ⟨a3, e4, hF⟩ := rf_s hG; clear hG
  refine hp_getR (f := 0) d_Reader_beginOne_21 q2 (by decide) rfl (by decide) (k1 179 rfl rfl) rfl e4 ?_
  obtain ⟨q5, hG⟩ := ck_s hF; clear hF
  obtain ⟨v7, H8, z6, hF⟩ := bC_s hG; clear hG
  refine hp_callV_v (H1 := H8) (As := []) (rest := []) d_Reader_beginOne_24 (k_Lexer_advance z6) (ab_mkC s_Lexer_advance (Nat.le_of_ble_eq_true rfl) (Nat.le_of_ble_eq_true rfl) (show (H.sh.length - c0) + 0 ≤ C from by omega) (show (H.sl - s0) + 0 ≤ Sl from by omega)) (k4 167 rfl rfl) i_Lexer_advance v_Lexer_advance q5 (by decide) rfl rfl (Nat.le_of_ble_eq_true rfl) ?_
  have s_2 : Sa H H8 := (m_Lexer_advance z6)
  refine ab_widen (cells' := H.sh.length - c0) (slots' := H.sl - s0) (by show (H.sh.length - c0) + 0 ≤ _; omega) (by show (H.sl - s0) + 0 ≤ _; omega) ?_
  exact ab_vret d_Reader_beginOne_27 rfl (by show _ ≤ C; omega) (by show _ ≤ Sl; omega) (by have hr := Option.some.inj hF; subst hr; exact ⟨rfl, rfl⟩)
def F_Reader_beginOne (N : Nat) (p0 : Nat) (p1 : Int32) (p2 : Int32) (H : Hp) : Option ((Ot Unit) × Hp) :=
    if p1 < p2 then
    B_Reader_beginOne_20 N p0 p1 p2  H
    else
    ck (H.sh[p0]? = some (5, 0)) <|
    rf (H.P p0 0) fun a17 =>
    rf (H.P p0 0) fun a19 =>
    ck (H.sh[a19]? = some (1, 0)) <|
    bnd ((H.D a19 3)) fun x22 =>
    ck (H.sh[a17]? = some (1, 0)) <|
    bT (F_Lexer_refuse N a17 (2 : Int32) x22 H) fun v25 H26 =>
    B_Reader_beginOne_20 N p0 p1 p2  H26
set_option maxRecDepth 20000 in
set_option maxHeartbeats 2000000 in
theorem m_Reader_beginOne {N : Nat} {p0 : Nat} {p1 : Int32} {p2 : Int32} {H : Hp} {r : (Ot Unit) × Hp} (hF : F_Reader_beginOne N p0 p1 p2 H = some r) : Mo H r.2 := by
  unfold F_Reader_beginOne at hF
  have hm := Mo.rf H
  rcases ite_s hF with ⟨q_8, hG⟩ | ⟨q_8, hG⟩
  · clear hF
    exact hm.tr (mB_Reader_beginOne_20 hG)
  · clear hF
    obtain ⟨q29, hF⟩ := ck_s hG; clear hG
    obtain ⟨a30, e31, hG⟩ := rf_s hF; clear hF
    obtain ⟨a32, e33, hF⟩ := rf_s hG; clear hG
    obtain ⟨q34, hG⟩ := ck_s hF; clear hF
    obtain ⟨x35, -, hF⟩ := bnd_g hG; clear hG
    obtain ⟨q36, hG⟩ := ck_s hF; clear hF
    refine bT_c hG (fun x40 H39 z37 er => ?_) (fun v38 H39 z37 hF => ?_)
    · subst er; exact hm.tr (m_Lexer_refuse z37)
    clear hG
    replace hm : Mo H H39 := hm.tr (m_Lexer_refuse z37)
    exact hm.tr (mB_Reader_beginOne_20 hF)
set_option maxRecDepth 20000 in
set_option maxHeartbeats 2000000 in
theorem k_Reader_beginOne {N : Nat} {p0 : Nat} {p1 : Int32} {p2 : Int32} {H : Hp} {r : (Ot Unit) × Hp} {C Sl : Nat} (hF : F_Reader_beginOne N p0 p1 p2 H = some r) (hC : r.2.sh.length ≤ H.sh.length + C) (hS : r.2.sl ≤ H.sl + Sl) : ab_M y_Reader_beginOne { frames := 7, cells := C, slots := Sl, locals := 122 } [.ref p0, .int p1, .int p2] (hpw H) (po (oV r.1) r.2) := by
  unfold F_Reader_beginOne at hF
  obtain ⟨c0, e0⟩ : ∃ q, q = H.sh.length := ⟨_, rfl⟩
  obtain ⟨s0, e1⟩ : ∃ q, q = H.sl := ⟨_, rfl⟩
  rw [← e0] at hC
  rw [← e1] at hS
  have hc0 : c0 ≤ H.sh.length := Nat.le_of_eq e0
  have hs0 : s0 ≤ H.sl := Nat.le_of_eq e1
  have hcc : H.sh.length ≤ c0 + C := by omega
  have hss : H.sl ≤ s0 + Sl := by omega
  refine ab_of2 (lv := [some (.ref p0), some (.int p1), some (.int p2)]) 0 rfl rfl (Nat.le_of_ble_eq_true rfl) ?_
  refine ab_widen (cells' := H.sh.length - c0) (slots' := H.sl - s0) (Nat.zero_le _) (Nat.zero_le _) ?_
  refine ab_iload_n d_Reader_beginOne_0 rfl rfl ?_
  refine ab_iload_n d_Reader_beginOne_1 rfl rfl ?_
  refine ab_icmp_lt (tgt := 20) d_Reader_beginOne_2 (by decide) (fun q1 => ?_) (fun q1 => ?_)
  · rw [if_pos q1] at hF
    exact kB_Reader_beginOne_20 hF hc0 hs0 hcc hss hC hS
  · rw [if_neg q1] at hF
    refine ab_aload_n d_Reader_beginOne_5 rfl rfl rfl ?_
    obtain ⟨q16, hG⟩ := ck_s hF; clear hF
    obtain ⟨a17, e18, hF⟩ := rf_s hG; clear hG
    refine hp_getR (f := 0) d_Reader_beginOne_6 q16 (by decide) rfl (by decide) (k1 179 rfl rfl) rfl e18 ?_
    refine ab_iconst (v := 2) d_Reader_beginOne_9 (by decide) ?_
    refine ab_aload_n d_Reader_beginOne_10 rfl rfl rfl ?_
    obtain ⟨a19, e20, hG⟩ := rf_s hF; clear hF
    refine hp_getR (f := 0) d_Reader_beginOne_11 q16 (by decide) rfl (by decide) (k1 179 rfl rfl) rfl e20 ?_
    obtain ⟨q21, hF⟩ := ck_s hG; clear hG
    refine hp_getI (f := 3) d_Reader_beginOne_14 q21 (by decide) rfl (by decide) (k1 101 rfl rfl) rfl ?_
    refine ab_topi (fun x22 ex22 => ?_)
    replace hF := bnd_s ex22 hF
    obtain ⟨q23, hG⟩ := ck_s hF; clear hF
    refine bT_c hG (fun x27 H26 z24 er => ?_) (fun v25 H26 z24 hF => ?_)
    · subst er
      have mz : Mo H H26 := (m_Lexer_refuse z24)
      have ml := mz.len
      have m2 := mz.2
      have hC9 : H26.sh.length ≤ c0 + C := hC
      have hS9 : H26.sl ≤ s0 + Sl := hS
      refine hp_callV_t (x := x27) (H1 := H26) (As := [.int 2, .int x22]) (rest := []) d_Reader_beginOne_17 (k_Lexer_refuse z24 (C := H26.sh.length - H.sh.length) (Sl := H26.sl - H.sl) (by show H26.sh.length ≤ _; omega) (by show H26.sl ≤ _; omega)) (ab_mkC s_Lexer_refuse (Nat.le_of_ble_eq_true rfl) (Nat.le_of_ble_eq_true rfl) (show (H.sh.length - c0) + (H26.sh.length - H.sh.length) ≤ C from by omega) (show (H.sl - s0) + (H26.sl - H.sl) ≤ Sl from by omega)) (k4 97 rfl rfl) i_Lexer_refuse v_Lexer_refuse q23 (by decide) rfl rfl (Nat.le_of_ble_eq_true rfl) ?_
      exact ab_U_out rfl (by show _ + (H26.sh.length - H.sh.length) ≤ C; omega) (by show _ + (H26.sl - H.sl) ≤ Sl; omega) ⟨rfl, rfl⟩
    clear hG
    have mz_3 : Mo H H26 := (m_Lexer_refuse z24)
    have b_4l := (mz_3).len
    have b_4s := (mz_3).2
    have b_4c : c0 ≤ H26.sh.length := by omega
    have b_4d : s0 ≤ H26.sl := by omega
    have q_5 := (mz_3).get q16
    have q_6 := (mz_3).get q21
    have q_7 := (mz_3).get q23
    have fH26 : Mo H26 r.2 := by
      have hm := Mo.rf H26
      exact hm.tr (mB_Reader_beginOne_20 hF)
    have b_4m := (fH26).len
    have b_4n := (fH26).2
    have b_4p : H26.sh.length ≤ c0 + C := by omega
    have b_4q : H26.sl ≤ s0 + Sl := by omega
    refine hp_callV_v (H1 := H26) (As := [.int 2, .int x22]) (rest := []) d_Reader_beginOne_17 (k_Lexer_refuse z24 (C := H26.sh.length - H.sh.length) (Sl := H26.sl - H.sl) (by show H26.sh.length ≤ _; omega) (by show H26.sl ≤ _; omega)) (ab_mkC s_Lexer_refuse (Nat.le_of_ble_eq_true rfl) (Nat.le_of_ble_eq_true rfl) (show (H.sh.length - c0) + (H26.sh.length - H.sh.length) ≤ C from by omega) (show (H.sl - s0) + (H26.sl - H.sl) ≤ Sl from by omega)) (k4 97 rfl rfl) i_Lexer_refuse v_Lexer_refuse q23 (by decide) rfl rfl (Nat.le_of_ble_eq_true rfl) ?_
    refine ab_widen (cells' := H26.sh.length - c0) (slots' := H26.sl - s0) (by show _ + (H26.sh.length - H.sh.length) ≤ _; omega) (by show _ + (H26.sl - H.sl) ≤ _; omega) ?_
    clear b_4l b_4s b_4m b_4n
    exact kB_Reader_beginOne_20 hF b_4c b_4d b_4p b_4q hC hS
