def y_MText_isLetter : ab_Y := (⟨"WorldEngineModel$Text", "isLetter", "(I)Z"⟩, prog_16_method_3_code, 1, (some FieldType.boolean), [])
theorem d_MText_isLetter_0 : decode y_MText_isLetter.2.1 0 = .ok (.iload_n 0, 1) := by decide +kernel
theorem d_MText_isLetter_1 : decode y_MText_isLetter.2.1 1 = .ok (.bipush 97, 2) := by decide +kernel
theorem d_MText_isLetter_3 : decode y_MText_isLetter.2.1 3 = .ok (.if_icmp .lt 9, 3) := by decide +kernel
theorem d_MText_isLetter_6 : decode y_MText_isLetter.2.1 6 = .ok (.iload_n 0, 1) := by decide +kernel
theorem d_MText_isLetter_7 : decode y_MText_isLetter.2.1 7 = .ok (.bipush 122, 2) := by decide +kernel
theorem d_MText_isLetter_9 : decode y_MText_isLetter.2.1 9 = .ok (.if_icmp .le 15, 3) := by decide +kernel
theorem d_MText_isLetter_12 : decode y_MText_isLetter.2.1 12 = .ok (.iload_n 0, 1) := by decide +kernel
theorem d_MText_isLetter_13 : decode y_MText_isLetter.2.1 13 = .ok (.bipush 65, 2) := by decide +kernel
theorem d_MText_isLetter_15 : decode y_MText_isLetter.2.1 15 = .ok (.if_icmp .lt 13, 3) := by decide +kernel
theorem d_MText_isLetter_18 : decode y_MText_isLetter.2.1 18 = .ok (.iload_n 0, 1) := by decide +kernel
theorem d_MText_isLetter_19 : decode y_MText_isLetter.2.1 19 = .ok (.bipush 90, 2) := by decide +kernel
theorem d_MText_isLetter_21 : decode y_MText_isLetter.2.1 21 = .ok (.if_icmp .gt 7, 3) := by decide +kernel
theorem d_MText_isLetter_24 : decode y_MText_isLetter.2.1 24 = .ok (.iconst 1, 1) := by decide +kernel
theorem d_MText_isLetter_25 : decode y_MText_isLetter.2.1 25 = .ok (.goto 4, 3) := by decide +kernel
theorem d_MText_isLetter_28 : decode y_MText_isLetter.2.1 28 = .ok (.iconst 0, 1) := by decide +kernel
theorem d_MText_isLetter_29 : decode y_MText_isLetter.2.1 29 = .ok (.ireturn, 1) := by decide +kernel
def y_MText_isDigit : ab_Y := (⟨"WorldEngineModel$Text", "isDigit", "(I)Z"⟩, prog_16_method_2_code, 1, (some FieldType.boolean), [])
theorem d_MText_isDigit_0 : decode y_MText_isDigit.2.1 0 = .ok (.iload_n 0, 1) := by decide +kernel
theorem d_MText_isDigit_1 : decode y_MText_isDigit.2.1 1 = .ok (.bipush 48, 2) := by decide +kernel
theorem d_MText_isDigit_3 : decode y_MText_isDigit.2.1 3 = .ok (.if_icmp .lt 13, 3) := by decide +kernel
theorem d_MText_isDigit_6 : decode y_MText_isDigit.2.1 6 = .ok (.iload_n 0, 1) := by decide +kernel
theorem d_MText_isDigit_7 : decode y_MText_isDigit.2.1 7 = .ok (.bipush 57, 2) := by decide +kernel
theorem d_MText_isDigit_9 : decode y_MText_isDigit.2.1 9 = .ok (.if_icmp .gt 7, 3) := by decide +kernel
theorem d_MText_isDigit_12 : decode y_MText_isDigit.2.1 12 = .ok (.iconst 1, 1) := by decide +kernel
theorem d_MText_isDigit_13 : decode y_MText_isDigit.2.1 13 = .ok (.goto 4, 3) := by decide +kernel
theorem d_MText_isDigit_16 : decode y_MText_isDigit.2.1 16 = .ok (.iconst 0, 1) := by decide +kernel
theorem d_MText_isDigit_17 : decode y_MText_isDigit.2.1 17 = .ok (.ireturn, 1) := by decide +kernel
def y_MText_word : ab_Y := (⟨"WorldEngineModel$Text", "word", "(I)I"⟩, prog_16_method_8_code, 7, (some FieldType.int), [])
theorem d_MText_word_0 : decode y_MText_word.2.1 0 = .ok (.iload_n 1, 1) := by decide +kernel
theorem d_MText_word_1 : decode y_MText_word.2.1 1 = .ok (.istore_n 2, 1) := by decide +kernel
theorem d_MText_word_2 : decode y_MText_word.2.1 2 = .ok (.aload_n 0, 1) := by decide +kernel
theorem d_MText_word_3 : decode y_MText_word.2.1 3 = .ok (.iload_n 2, 1) := by decide +kernel
theorem d_MText_word_4 : decode y_MText_word.2.1 4 = .ok (.invokevirtual 115, 3) := by decide +kernel
theorem d_MText_word_7 : decode y_MText_word.2.1 7 = .ok (.invokestatic 122, 3) := by decide +kernel
theorem d_MText_word_10 : decode y_MText_word.2.1 10 = .ok (.ifCond .ne 14, 3) := by decide +kernel
theorem d_MText_word_13 : decode y_MText_word.2.1 13 = .ok (.aload_n 0, 1) := by decide +kernel
theorem d_MText_word_14 : decode y_MText_word.2.1 14 = .ok (.iload_n 2, 1) := by decide +kernel
theorem d_MText_word_15 : decode y_MText_word.2.1 15 = .ok (.invokevirtual 115, 3) := by decide +kernel
theorem d_MText_word_18 : decode y_MText_word.2.1 18 = .ok (.invokestatic 129, 3) := by decide +kernel
theorem d_MText_word_21 : decode y_MText_word.2.1 21 = .ok (.ifCond .eq 9, 3) := by decide +kernel
theorem d_MText_word_24 : decode y_MText_word.2.1 24 = .ok (.iinc 2 1, 3) := by decide +kernel
theorem d_MText_word_27 : decode y_MText_word.2.1 27 = .ok (.goto (-25), 3) := by decide +kernel
theorem d_MText_word_30 : decode y_MText_word.2.1 30 = .ok (.iconst 1, 1) := by decide +kernel
theorem d_MText_word_31 : decode y_MText_word.2.1 31 = .ok (.istore_n 3, 1) := by decide +kernel
theorem d_MText_word_32 : decode y_MText_word.2.1 32 = .ok (.iconst 0, 1) := by decide +kernel
theorem d_MText_word_33 : decode y_MText_word.2.1 33 = .ok (.istore 4, 2) := by decide +kernel
theorem d_MText_word_35 : decode y_MText_word.2.1 35 = .ok (.iconst 0, 1) := by decide +kernel
theorem d_MText_word_36 : decode y_MText_word.2.1 36 = .ok (.istore 5, 2) := by decide +kernel
theorem d_MText_word_38 : decode y_MText_word.2.1 38 = .ok (.iload 5, 2) := by decide +kernel
theorem d_MText_word_40 : decode y_MText_word.2.1 40 = .ok (.ldc 139, 2) := by decide +kernel
theorem d_MText_word_42 : decode y_MText_word.2.1 42 = .ok (.invokevirtual 141, 3) := by decide +kernel
theorem d_MText_word_45 : decode y_MText_word.2.1 45 = .ok (.if_icmp .ge 119, 3) := by decide +kernel
theorem d_MText_word_48 : decode y_MText_word.2.1 48 = .ok (.iload_n 3, 1) := by decide +kernel
theorem d_MText_word_49 : decode y_MText_word.2.1 49 = .ok (.iconst 1, 1) := by decide +kernel
theorem d_MText_word_50 : decode y_MText_word.2.1 50 = .ok (.if_icmp .ne 114, 3) := by decide +kernel
theorem d_MText_word_53 : decode y_MText_word.2.1 53 = .ok (.iconst 0, 1) := by decide +kernel
theorem d_MText_word_54 : decode y_MText_word.2.1 54 = .ok (.istore 6, 2) := by decide +kernel
theorem d_MText_word_56 : decode y_MText_word.2.1 56 = .ok (.ldc 139, 2) := by decide +kernel
theorem d_MText_word_58 : decode y_MText_word.2.1 58 = .ok (.iload 5, 2) := by decide +kernel
theorem d_MText_word_60 : decode y_MText_word.2.1 60 = .ok (.iload 6, 2) := by decide +kernel
theorem d_MText_word_62 : decode y_MText_word.2.1 62 = .ok (.iadd, 1) := by decide +kernel
theorem d_MText_word_63 : decode y_MText_word.2.1 63 = .ok (.invokevirtual 147, 3) := by decide +kernel
theorem d_MText_word_66 : decode y_MText_word.2.1 66 = .ok (.bipush 32, 2) := by decide +kernel
theorem d_MText_word_68 : decode y_MText_word.2.1 68 = .ok (.if_icmp .eq 39, 3) := by decide +kernel
theorem d_MText_word_71 : decode y_MText_word.2.1 71 = .ok (.iload 6, 2) := by decide +kernel
theorem d_MText_word_73 : decode y_MText_word.2.1 73 = .ok (.iload_n 2, 1) := by decide +kernel
theorem d_MText_word_74 : decode y_MText_word.2.1 74 = .ok (.iload_n 1, 1) := by decide +kernel
theorem d_MText_word_75 : decode y_MText_word.2.1 75 = .ok (.isub, 1) := by decide +kernel
theorem d_MText_word_76 : decode y_MText_word.2.1 76 = .ok (.if_icmp .ge 31, 3) := by decide +kernel
theorem d_MText_word_79 : decode y_MText_word.2.1 79 = .ok (.ldc 139, 2) := by decide +kernel
theorem d_MText_word_81 : decode y_MText_word.2.1 81 = .ok (.iload 5, 2) := by decide +kernel
theorem d_MText_word_83 : decode y_MText_word.2.1 83 = .ok (.iload 6, 2) := by decide +kernel
theorem d_MText_word_85 : decode y_MText_word.2.1 85 = .ok (.iadd, 1) := by decide +kernel
theorem d_MText_word_86 : decode y_MText_word.2.1 86 = .ok (.invokevirtual 147, 3) := by decide +kernel
theorem d_MText_word_89 : decode y_MText_word.2.1 89 = .ok (.aload_n 0, 1) := by decide +kernel
theorem d_MText_word_90 : decode y_MText_word.2.1 90 = .ok (.getfield 11, 3) := by decide +kernel
theorem d_MText_word_93 : decode y_MText_word.2.1 93 = .ok (.iload_n 1, 1) := by decide +kernel
theorem d_MText_word_94 : decode y_MText_word.2.1 94 = .ok (.iload 6, 2) := by decide +kernel
theorem d_MText_word_96 : decode y_MText_word.2.1 96 = .ok (.iadd, 1) := by decide +kernel
theorem d_MText_word_97 : decode y_MText_word.2.1 97 = .ok (.baload, 1) := by decide +kernel
theorem d_MText_word_98 : decode y_MText_word.2.1 98 = .ok (.if_icmp .ne 9, 3) := by decide +kernel
theorem d_MText_word_101 : decode y_MText_word.2.1 101 = .ok (.iinc 6 1, 3) := by decide +kernel
theorem d_MText_word_104 : decode y_MText_word.2.1 104 = .ok (.goto (-48), 3) := by decide +kernel
theorem d_MText_word_107 : decode y_MText_word.2.1 107 = .ok (.iload 6, 2) := by decide +kernel
theorem d_MText_word_109 : decode y_MText_word.2.1 109 = .ok (.iload_n 2, 1) := by decide +kernel
theorem d_MText_word_110 : decode y_MText_word.2.1 110 = .ok (.iload_n 1, 1) := by decide +kernel
theorem d_MText_word_111 : decode y_MText_word.2.1 111 = .ok (.isub, 1) := by decide +kernel
theorem d_MText_word_112 : decode y_MText_word.2.1 112 = .ok (.if_icmp .ne 25, 3) := by decide +kernel
theorem d_MText_word_115 : decode y_MText_word.2.1 115 = .ok (.ldc 139, 2) := by decide +kernel
theorem d_MText_word_117 : decode y_MText_word.2.1 117 = .ok (.iload 5, 2) := by decide +kernel
theorem d_MText_word_119 : decode y_MText_word.2.1 119 = .ok (.iload 6, 2) := by decide +kernel
theorem d_MText_word_121 : decode y_MText_word.2.1 121 = .ok (.iadd, 1) := by decide +kernel
theorem d_MText_word_122 : decode y_MText_word.2.1 122 = .ok (.invokevirtual 147, 3) := by decide +kernel
theorem d_MText_word_125 : decode y_MText_word.2.1 125 = .ok (.bipush 32, 2) := by decide +kernel
theorem d_MText_word_127 : decode y_MText_word.2.1 127 = .ok (.if_icmp .ne 10, 3) := by decide +kernel
theorem d_MText_word_130 : decode y_MText_word.2.1 130 = .ok (.sipush 200, 3) := by decide +kernel
theorem d_MText_word_133 : decode y_MText_word.2.1 133 = .ok (.iload 4, 2) := by decide +kernel
theorem d_MText_word_135 : decode y_MText_word.2.1 135 = .ok (.iadd, 1) := by decide +kernel
theorem d_MText_word_136 : decode y_MText_word.2.1 136 = .ok (.istore_n 3, 1) := by decide +kernel
theorem d_MText_word_137 : decode y_MText_word.2.1 137 = .ok (.ldc 139, 2) := by decide +kernel
theorem d_MText_word_139 : decode y_MText_word.2.1 139 = .ok (.iload 5, 2) := by decide +kernel
theorem d_MText_word_141 : decode y_MText_word.2.1 141 = .ok (.invokevirtual 147, 3) := by decide +kernel
theorem d_MText_word_144 : decode y_MText_word.2.1 144 = .ok (.bipush 32, 2) := by decide +kernel
theorem d_MText_word_146 : decode y_MText_word.2.1 146 = .ok (.if_icmp .eq 9, 3) := by decide +kernel
theorem d_MText_word_149 : decode y_MText_word.2.1 149 = .ok (.iinc 5 1, 3) := by decide +kernel
theorem d_MText_word_152 : decode y_MText_word.2.1 152 = .ok (.goto (-15), 3) := by decide +kernel
theorem d_MText_word_155 : decode y_MText_word.2.1 155 = .ok (.iinc 5 1, 3) := by decide +kernel
theorem d_MText_word_158 : decode y_MText_word.2.1 158 = .ok (.iinc 4 1, 3) := by decide +kernel
theorem d_MText_word_161 : decode y_MText_word.2.1 161 = .ok (.goto (-123), 3) := by decide +kernel
theorem d_MText_word_164 : decode y_MText_word.2.1 164 = .ok (.aload_n 0, 1) := by decide +kernel
theorem d_MText_word_165 : decode y_MText_word.2.1 165 = .ok (.iload_n 3, 1) := by decide +kernel
theorem d_MText_word_166 : decode y_MText_word.2.1 166 = .ok (.iload_n 1, 1) := by decide +kernel
theorem d_MText_word_167 : decode y_MText_word.2.1 167 = .ok (.iload_n 2, 1) := by decide +kernel
theorem d_MText_word_168 : decode y_MText_word.2.1 168 = .ok (.invokevirtual 118, 3) := by decide +kernel
theorem d_MText_word_171 : decode y_MText_word.2.1 171 = .ok (.aload_n 0, 1) := by decide +kernel
theorem d_MText_word_172 : decode y_MText_word.2.1 172 = .ok (.getfield 28, 3) := by decide +kernel
theorem d_MText_word_175 : decode y_MText_word.2.1 175 = .ok (.aload_n 0, 1) := by decide +kernel
theorem d_MText_word_176 : decode y_MText_word.2.1 176 = .ok (.getfield 108, 3) := by decide +kernel
theorem d_MText_word_179 : decode y_MText_word.2.1 179 = .ok (.iconst 1, 1) := by decide +kernel
theorem d_MText_word_180 : decode y_MText_word.2.1 180 = .ok (.isub, 1) := by decide +kernel
theorem d_MText_word_181 : decode y_MText_word.2.1 181 = .ok (.iload_n 3, 1) := by decide +kernel
theorem d_MText_word_182 : decode y_MText_word.2.1 182 = .ok (.iconst 1, 1) := by decide +kernel
theorem d_MText_word_183 : decode y_MText_word.2.1 183 = .ok (.if_icmp .ne 15, 3) := by decide +kernel
theorem d_MText_word_186 : decode y_MText_word.2.1 186 = .ok (.iload_n 2, 1) := by decide +kernel
theorem d_MText_word_187 : decode y_MText_word.2.1 187 = .ok (.iload_n 1, 1) := by decide +kernel
theorem d_MText_word_188 : decode y_MText_word.2.1 188 = .ok (.isub, 1) := by decide +kernel
theorem d_MText_word_189 : decode y_MText_word.2.1 189 = .ok (.bipush 12, 2) := by decide +kernel
theorem d_MText_word_191 : decode y_MText_word.2.1 191 = .ok (.if_icmp .le 7, 3) := by decide +kernel
theorem d_MText_word_194 : decode y_MText_word.2.1 194 = .ok (.iconst 1, 1) := by decide +kernel
theorem d_MText_word_195 : decode y_MText_word.2.1 195 = .ok (.goto 4, 3) := by decide +kernel
theorem d_MText_word_198 : decode y_MText_word.2.1 198 = .ok (.iconst 0, 1) := by decide +kernel
theorem d_MText_word_199 : decode y_MText_word.2.1 199 = .ok (.bastore, 1) := by decide +kernel
theorem d_MText_word_200 : decode y_MText_word.2.1 200 = .ok (.iload_n 2, 1) := by decide +kernel
theorem d_MText_word_201 : decode y_MText_word.2.1 201 = .ok (.ireturn, 1) := by decide +kernel
theorem s_MText_isLetter : ab_Stat y_MText_isLetter 1 := ⟨(k10 126 rfl rfl), (k1 20 rfl rfl), ⟨by decide, by decide⟩, by decide +kernel⟩
theorem t_MText_isLetter : Cond.static y_MText_isLetter.1 ∈ ab_T := (k10 125 rfl rfl)
theorem s_MText_isDigit : ab_Stat y_MText_isDigit 1 := ⟨(k10 133 rfl rfl), (k1 20 rfl rfl), ⟨by decide, by decide⟩, by decide +kernel⟩
theorem t_MText_isDigit : Cond.static y_MText_isDigit.1 ∈ ab_T := (k10 132 rfl rfl)
theorem s_MText_word : ab_Stat y_MText_word 1 := ⟨(k10 130 rfl rfl), (k1 20 rfl rfl), ⟨by decide, by decide⟩, by decide +kernel⟩
theorem i_MText_word : Cond.instanceMethod y_MText_word.1 ∈ ab_T := (k10 129 rfl rfl)
theorem v_MText_word : Cond.selects "WorldEngineModel$Text" y_MText_word.1 y_MText_word.1 ∈ ab_T := ab_s (List.mem_of_getElem? (i := 111) rfl) rfl
def sp_MText_isLetter  (c : Int32) : Int32 := if c < (97 : Int32) then if c < (65 : Int32) then (0) else if (90 : Int32) < c then (0) else (1) else if c ≤ (122 : Int32) then (1) else if c < (65 : Int32) then (0) else if (90 : Int32) < c then (0) else (1)
set_option maxRecDepth 20000 in
set_option maxHeartbeats 2000000 in
theorem c_MText_isLetter {h : List ab_E}  {c : Int32}   : ab_M y_MText_isLetter { frames := 0, cells := 0, slots := 0, locals := 0 } [.int c] h (ab_A (some (.int (sp_MText_isLetter  c))) (fun h1 => h = h1)) := by
  refine ab_of2 (lv := [some (.int c)]) 0 rfl rfl (Nat.le_of_ble_eq_true rfl) ?_
  refine ab_iload_n d_MText_isLetter_0 rfl rfl ?_
  refine ab_bipush (v := 97) d_MText_isLetter_1 (by decide) ?_
  refine ab_icmp_lt (tgt := 12) d_MText_isLetter_3 (by decide) (fun q1 => ?_) (fun q1 => ?_)
  · refine ab_iload_n d_MText_isLetter_12 rfl rfl ?_
    refine ab_bipush (v := 65) d_MText_isLetter_13 (by decide) ?_
    refine ab_icmp_lt (tgt := 28) d_MText_isLetter_15 (by decide) (fun q2 => ?_) (fun q2 => ?_)
    · refine ab_iconst (v := 0) d_MText_isLetter_28 (by decide) ?_
      exact ab_zret d_MText_isLetter_29 rfl rfl (Nat.le_refl _) (Nat.le_refl _) (by unfold sp_MText_isLetter; rw [if_pos q1]; rw [if_pos q2]; exact ⟨rfl, rfl⟩)
    · refine ab_iload_n d_MText_isLetter_18 rfl rfl ?_
      refine ab_bipush (v := 90) d_MText_isLetter_19 (by decide) ?_
      refine ab_icmp_gt (tgt := 28) d_MText_isLetter_21 (by decide) (fun q3 => ?_) (fun q3 => ?_)
      · refine ab_iconst (v := 0) d_MText_isLetter_28 (by decide) ?_
        exact ab_zret d_MText_isLetter_29 rfl rfl (Nat.le_refl _) (Nat.le_refl _) (by unfold sp_MText_isLetter; rw [if_pos q1]; rw [if_neg q2]; rw [if_pos q3]; exact ⟨rfl, rfl⟩)
      · refine ab_iconst (v := 1) d_MText_isLetter_24 (by decide) ?_
        refine ab_goto (tgt := 29) d_MText_isLetter_25 (by decide) ?_
        exact ab_zret d_MText_isLetter_29 rfl rfl (Nat.le_refl _) (Nat.le_refl _) (by unfold sp_MText_isLetter; rw [if_pos q1]; rw [if_neg q2]; rw [if_neg q3]; exact ⟨rfl, rfl⟩)
  · refine ab_iload_n d_MText_isLetter_6 rfl rfl ?_
    refine ab_bipush (v := 122) d_MText_isLetter_7 (by decide) ?_
    refine ab_icmp_le (tgt := 24) d_MText_isLetter_9 (by decide) (fun q4 => ?_) (fun q4 => ?_)
    · refine ab_iconst (v := 1) d_MText_isLetter_24 (by decide) ?_
      refine ab_goto (tgt := 29) d_MText_isLetter_25 (by decide) ?_
      exact ab_zret d_MText_isLetter_29 rfl rfl (Nat.le_refl _) (Nat.le_refl _) (by unfold sp_MText_isLetter; rw [if_neg q1]; rw [if_pos q4]; exact ⟨rfl, rfl⟩)
    · refine ab_iload_n d_MText_isLetter_12 rfl rfl ?_
      refine ab_bipush (v := 65) d_MText_isLetter_13 (by decide) ?_
      refine ab_icmp_lt (tgt := 28) d_MText_isLetter_15 (by decide) (fun q5 => ?_) (fun q5 => ?_)
      · refine ab_iconst (v := 0) d_MText_isLetter_28 (by decide) ?_
        exact ab_zret d_MText_isLetter_29 rfl rfl (Nat.le_refl _) (Nat.le_refl _) (by unfold sp_MText_isLetter; rw [if_neg q1]; rw [if_neg q4]; rw [if_pos q5]; exact ⟨rfl, rfl⟩)
      · refine ab_iload_n d_MText_isLetter_18 rfl rfl ?_
        refine ab_bipush (v := 90) d_MText_isLetter_19 (by decide) ?_
        refine ab_icmp_gt (tgt := 28) d_MText_isLetter_21 (by decide) (fun q6 => ?_) (fun q6 => ?_)
        · refine ab_iconst (v := 0) d_MText_isLetter_28 (by decide) ?_
          exact ab_zret d_MText_isLetter_29 rfl rfl (Nat.le_refl _) (Nat.le_refl _) (by unfold sp_MText_isLetter; rw [if_neg q1]; rw [if_neg q4]; rw [if_neg q5]; rw [if_pos q6]; exact ⟨rfl, rfl⟩)
        · refine ab_iconst (v := 1) d_MText_isLetter_24 (by decide) ?_
          refine ab_goto (tgt := 29) d_MText_isLetter_25 (by decide) ?_
          exact ab_zret d_MText_isLetter_29 rfl rfl (Nat.le_refl _) (Nat.le_refl _) (by unfold sp_MText_isLetter; rw [if_neg q1]; rw [if_neg q4]; rw [if_neg q5]; rw [if_neg q6]; exact ⟨rfl, rfl⟩)
def sp_MText_isDigit  (c : Int32) : Int32 := if c < (48 : Int32) then (0) else if (57 : Int32) < c then (0) else (1)
set_option maxRecDepth 20000 in
set_option maxHeartbeats 2000000 in
theorem c_MText_isDigit {h : List ab_E}  {c : Int32}   : ab_M y_MText_isDigit { frames := 0, cells := 0, slots := 0, locals := 0 } [.int c] h (ab_A (some (.int (sp_MText_isDigit  c))) (fun h1 => h = h1)) := by
  refine ab_of2 (lv := [some (.int c)]) 0 rfl rfl (Nat.le_of_ble_eq_true rfl) ?_
  refine ab_iload_n d_MText_isDigit_0 rfl rfl ?_
  refine ab_bipush (v := 48) d_MText_isDigit_1 (by decide) ?_
  refine ab_icmp_lt (tgt := 16) d_MText_isDigit_3 (by decide) (fun q1 => ?_) (fun q1 => ?_)
  · refine ab_iconst (v := 0) d_MText_isDigit_16 (by decide) ?_
    exact ab_zret d_MText_isDigit_17 rfl rfl (Nat.le_refl _) (Nat.le_refl _) (by unfold sp_MText_isDigit; rw [if_pos q1]; exact ⟨rfl, rfl⟩)
  · refine ab_iload_n d_MText_isDigit_6 rfl rfl ?_
    refine ab_bipush (v := 57) d_MText_isDigit_7 (by decide) ?_
    refine ab_icmp_gt (tgt := 16) d_MText_isDigit_9 (by decide) (fun q2 => ?_) (fun q2 => ?_)
    · refine ab_iconst (v := 0) d_MText_isDigit_16 (by decide) ?_
      exact ab_zret d_MText_isDigit_17 rfl rfl (Nat.le_refl _) (Nat.le_refl _) (by unfold sp_MText_isDigit; rw [if_neg q1]; rw [if_pos q2]; exact ⟨rfl, rfl⟩)
    · refine ab_iconst (v := 1) d_MText_isDigit_12 (by decide) ?_
      refine ab_goto (tgt := 17) d_MText_isDigit_13 (by decide) ?_
      exact ab_zret d_MText_isDigit_17 rfl rfl (Nat.le_refl _) (Nat.le_refl _) (by unfold sp_MText_isDigit; rw [if_neg q1]; rw [if_neg q2]; exact ⟨rfl, rfl⟩)
theorem let_eq0 : ∀ v : BitVec 8, sp_letter ((Int8.ofBitVec v).toInt32 &&& 255) = sp_MText_isLetter (Int8.ofBitVec v).toInt32 := by decide +kernel
theorem dig_eq0 : ∀ v : BitVec 8, sp_digit ((Int8.ofBitVec v).toInt32 &&& 255) = sp_MText_isDigit (Int8.ofBitVec v).toInt32 := by decide +kernel
theorem let_eq {x : Int32} (h : by_ok x) : sp_letter (x &&& 255) = sp_MText_isLetter x := by
  have z := let_eq0 x.toInt8.toBitVec
  rw [show Int8.ofBitVec x.toInt8.toBitVec = x.toInt8 from rfl, show x.toInt8.toInt32 = x from h] at z
  exact z
theorem dig_eq {x : Int32} (h : by_ok x) : sp_digit (x &&& 255) = sp_MText_isDigit x := by
  have z := dig_eq0 x.toInt8.toBitVec
  rw [show Int8.ofBitVec x.toInt8.toBitVec = x.toInt8 from rfl, show x.toInt8.toInt32 = x from h] at z
  exact z
theorem mf_out {s : Nat → Int32} {a : Nat → Nat → Int32} {mf : Int32 → Int32} {T i : Nat} (hT : s 1 = nI T) (hm : ∀ i, mt_byte s a i = mf i) (hi : i < 2 ^ 31) (h : T ≤ i) : mf (nI i) = 0 := by
  rw [← hm]
  unfold mt_byte
  rw [hT, if_pos (nI_le h hi)]
theorem let_lt {s : Nat → Int32} {a : Nat → Nat → Int32} {mf : Int32 → Int32} {T i : Nat} (hT : s 1 = nI T) (hm : ∀ i, mt_byte s a i = mf i) (hi : i < 2 ^ 31) (h : ¬ sp_MText_isLetter (mf (nI i)) = 0) : i < T := by
  refine Nat.lt_of_not_le (fun z => h ?_)
  rw [mf_out hT hm hi z]
  decide
theorem dig_lt {s : Nat → Int32} {a : Nat → Nat → Int32} {mf : Int32 → Int32} {T i : Nat} (hT : s 1 = nI T) (hm : ∀ i, mt_byte s a i = mf i) (hi : i < 2 ^ 31) (h : ¬ sp_MText_isDigit (mf (nI i)) = 0) : i < T := by
  refine Nat.lt_of_not_le (fun z => h ?_)
  rw [mf_out hT hm hi z]
  decide
set_option maxRecDepth 20000 in
set_option maxHeartbeats 2000000 in
theorem c_mf {h : List ab_E} {t : Nat} {s : Nat → Int32} {a : Nat → Nat → Int32} {mf : Int32 → Int32} {T : Nat} {i : Int32} (hl : at_MText h t s a) (hT : s 1 = nI T) (hT2 : T ≤ 6000) (hm : ∀ i, mt_byte s a i = mf i) (hi : ¬ i < 0) : ab_M y_MText_letter { frames := 0, cells := 0, slots := 0, locals := 0 } [.ref t, .int i] h (ab_A (some (.int (mf i))) (fun h1 => h = h1)) := by
  have hl0 := hl; obtain ⟨go, g0, g3, g4, g5, g6, g7, g8, g13, g14, g15, g17, g18, g19, g20, g22, g23, g24, g25, g27, g28, g30, g31, g32, g33, g34, g35, g36, g38, g39, g40⟩ := hl
  replace go : h[t]? = some (.inr (14, [.ref (t + 1), .int (nI T), .int (s 2), .ref (t + 2), .ref (t + 3), .ref (t + 4), .ref (t + 5), .ref (t + 6), .ref (t + 7), .int (s 9), .int (s 10), .int (s 11), .int (s 12), .ref (t + 8), .ref (t + 9), .ref (t + 10), .int (s 16), .ref (t + 11), .ref (t + 12), .ref (t + 13), .ref (t + 14), .int (s 21), .ref (t + 15), .ref (t + 16), .ref (t + 17), .ref (t + 18), .int (s 26), .ref (t + 19), .ref (t + 20), .int (s 29), .ref (t + 21), .ref (t + 22), .ref (t + 23), .ref (t + 24), .ref (t + 25), .ref (t + 26), .ref (t + 27), .int (s 37), .ref (t + 28), .ref (t + 29), .ref (t + 30), .int (s 41), .int (s 42)])) := (by rw [← hT]; exact go)
  refine ab_of2 (lv := [some (.ref t), some (.int i)]) 0 rfl rfl (Nat.le_of_ble_eq_true rfl) ?_
  refine ab_iload_n d_MText_letter_0 rfl rfl ?_
  refine ab_aload_n d_MText_letter_1 rfl rfl rfl ?_
  refine ab_get (f := 1) d_MText_letter_2 go rfl (by decide) (k8 160 rfl rfl) rfl ?_
  refine ab_icmp_ge (tgt := 17) d_MText_letter_5 (by decide) (fun q1 => ?_) (fun q1 => ?_)
  · refine ab_iconst (v := 0) d_MText_letter_17 (by decide) ?_
    exact ab_iret d_MText_letter_18 rfl (Nat.le_refl _) (Nat.le_refl _) ⟨by rw [← hm]; unfold mt_byte; rw [hT, if_pos q1], rfl⟩
  · refine ab_aload_n d_MText_letter_8 rfl rfl rfl ?_
    refine ab_get (f := 0) d_MText_letter_9 go rfl (by decide) (k8 159 rfl rfl) rfl ?_
    refine ab_iload_n d_MText_letter_12 rfl rfl ?_
    refine ab_bald d_MText_letter_13 tB g0 (in_of (by decide) hi (fun z => q1 (Int32.le_trans (nI_le hT2 (by decide)) z))) ?_
    refine ab_goto (tgt := 18) d_MText_letter_14 (by decide) ?_
    exact ab_iret d_MText_letter_18 rfl (Nat.le_refl _) (Nat.le_refl _) ⟨by rw [← hm]; unfold mt_byte; rw [hT, if_neg q1], rfl⟩
def sp_mw  (mf : Int32 → Int32) (T : Nat) : Nat → Nat → Nat
  | 0, i => i
  | n + 1, i => if ¬ (sp_MText_isLetter (mf (nI i))) = (0 : Int32) then sp_mw  mf T n (i + 1)  else if (sp_MText_isDigit (mf (nI i))) = (0 : Int32) then i else sp_mw  mf T n (i + 1) 
termination_by n => n
theorem sp_mw_0  (mf : Int32 → Int32) (T : Nat) (i : Nat)  : sp_mw  mf T 0 i  = i := by rw [sp_mw]
set_option maxRecDepth 20000 in
set_option maxHeartbeats 2000000 in
theorem l_mw {h : List ab_E} {t : Nat} {s : Nat → Int32} {a : Nat → Nat → Int32} {mf : Int32 → Int32} {T : Nat} {Po : Outcome → List ab_E → Prop} {mc ms cells slots : Nat} (hl : at_MText h t s a) {f : Int32} (hT : s 1 = nI T) (hT2 : T ≤ 6000) (hm : ∀ i, mt_byte s a i = mf i) (hcl : cells ≤ ({ frames := 4, cells := 0, slots := 0, locals := 160 } : Room).cells) (hsl : slots ≤ ({ frames := 4, cells := 0, slots := 0, locals := 160 } : Room).slots) : ∀ (n i : Nat) , T ≤ i + n → i ≤ T → (i ≤ (sp_mw  mf T n i ) → (sp_mw  mf T n i ) ≤ T → ab_V y_MText_word { frames := 4, cells := 0, slots := 0, locals := 160 } Po mc ms cells slots 30 [some (.ref t), some (.int f), some (.int (nI (sp_mw  mf T n i ))), none, none, none, none] [] h) → ab_V y_MText_word { frames := 4, cells := 0, slots := 0, locals := 160 } Po mc ms cells slots 2 [some (.ref t), some (.int f), some (.int (nI i)), none, none, none, none] [] h := by
  have hl0 := hl; obtain ⟨go, g0, g3, g4, g5, g6, g7, g8, g13, g14, g15, g17, g18, g19, g20, g22, g23, g24, g25, g27, g28, g30, g31, g32, g33, g34, g35, g36, g38, g39, g40⟩ := hl
  replace go : h[t]? = some (.inr (14, [.ref (t + 1), .int (nI T), .int (s 2), .ref (t + 2), .ref (t + 3), .ref (t + 4), .ref (t + 5), .ref (t + 6), .ref (t + 7), .int (s 9), .int (s 10), .int (s 11), .int (s 12), .ref (t + 8), .ref (t + 9), .ref (t + 10), .int (s 16), .ref (t + 11), .ref (t + 12), .ref (t + 13), .ref (t + 14), .int (s 21), .ref (t + 15), .ref (t + 16), .ref (t + 17), .ref (t + 18), .int (s 26), .ref (t + 19), .ref (t + 20), .int (s 29), .ref (t + 21), .ref (t + 22), .ref (t + 23), .ref (t + 24), .ref (t + 25), .ref (t + 26), .ref (t + 27), .int (s 37), .ref (t + 28), .ref (t + 29), .ref (t + 30), .int (s 41), .int (s 42)])) := (by rw [← hT]; exact go)
  intro n
  induction n with
  | zero =>
    intro i  hif hiT hk
    refine ab_aload_n d_MText_word_2 rfl rfl rfl ?_
    refine ab_iload_n d_MText_word_3 rfl rfl ?_
    refine ab_callV_a (As := [.int (nI i)]) (rest := []) d_MText_word_4 (c_mf hl0 hT hT2 hm (nI_pos (by omega))) (ab_mkC s_MText_letter (Nat.le_of_ble_eq_true rfl) (Nat.le_of_ble_eq_true rfl) (by first | exact hcl | (show _ ≤ _; omega)) (by first | exact hsl | (show _ ≤ _; omega))) (k10 116 rfl rfl) i_MText_letter v_MText_letter go rfl rfl (Nat.le_of_ble_eq_true rfl) (fun h2 q1 => ?_)
    subst q1
    refine ab_callS_a (As := [.int (mf (nI i))]) (rest := []) d_MText_word_7 (c_MText_isLetter) (ab_mkC s_MText_isLetter (Nat.le_of_ble_eq_true rfl) (Nat.le_of_ble_eq_true rfl) (by first | exact hcl | (show _ ≤ _; omega)) (by first | exact hsl | (show _ ≤ _; omega))) (k10 124 rfl rfl) t_MText_isLetter rfl (Nat.le_of_ble_eq_true rfl) (fun h4 q3 => ?_)
    subst q3
    refine ab_if_ne (tgt := 24) d_MText_word_10 (by decide) (fun q5 => ?_) (fun q5 => ?_)
    · exact absurd (let_lt hT hm (by omega) q5) (by omega)
    · refine ab_aload_n d_MText_word_13 rfl rfl rfl ?_
      refine ab_iload_n d_MText_word_14 rfl rfl ?_
      refine ab_callV_a (As := [.int (nI i)]) (rest := []) d_MText_word_15 (c_mf hl0 hT hT2 hm (nI_pos (by omega))) (ab_mkC s_MText_letter (Nat.le_of_ble_eq_true rfl) (Nat.le_of_ble_eq_true rfl) (by first | exact hcl | (show _ ≤ _; omega)) (by first | exact hsl | (show _ ≤ _; omega))) (k10 116 rfl rfl) i_MText_letter v_MText_letter go rfl rfl (Nat.le_of_ble_eq_true rfl) (fun h7 q6 => ?_)
      subst q6
      refine ab_callS_a (As := [.int (mf (nI i))]) (rest := []) d_MText_word_18 (c_MText_isDigit) (ab_mkC s_MText_isDigit (Nat.le_of_ble_eq_true rfl) (Nat.le_of_ble_eq_true rfl) (by first | exact hcl | (show _ ≤ _; omega)) (by first | exact hsl | (show _ ≤ _; omega))) (k10 131 rfl rfl) t_MText_isDigit rfl (Nat.le_of_ble_eq_true rfl) (fun h9 q8 => ?_)
      subst q8
      refine ab_if_eq (tgt := 30) d_MText_word_21 (by decide) (fun q10 => ?_) (fun q10 => ?_)
      · rw [sp_mw_0] at hk
        exact hk (Nat.le_refl _) hiT
      · exact absurd (dig_lt hT hm (by omega) q10) (by omega)
  | succ n ih =>
    intro i  hif hiT hk
    refine ab_aload_n d_MText_word_2 rfl rfl rfl ?_
    refine ab_iload_n d_MText_word_3 rfl rfl ?_
    refine ab_callV_a (As := [.int (nI i)]) (rest := []) d_MText_word_4 (c_mf hl0 hT hT2 hm (nI_pos (by omega))) (ab_mkC s_MText_letter (Nat.le_of_ble_eq_true rfl) (Nat.le_of_ble_eq_true rfl) (by first | exact hcl | (show _ ≤ _; omega)) (by first | exact hsl | (show _ ≤ _; omega))) (k10 116 rfl rfl) i_MText_letter v_MText_letter go rfl rfl (Nat.le_of_ble_eq_true rfl) (fun h2 q1 => ?_)
    subst q1
    refine ab_callS_a (As := [.int (mf (nI i))]) (rest := []) d_MText_word_7 (c_MText_isLetter) (ab_mkC s_MText_isLetter (Nat.le_of_ble_eq_true rfl) (Nat.le_of_ble_eq_true rfl) (by first | exact hcl | (show _ ≤ _; omega)) (by first | exact hsl | (show _ ≤ _; omega))) (k10 124 rfl rfl) t_MText_isLetter rfl (Nat.le_of_ble_eq_true rfl) (fun h4 q3 => ?_)
    subst q3
    refine ab_if_ne (tgt := 24) d_MText_word_10 (by decide) (fun q5 => ?_) (fun q5 => ?_)
    · have hlt : i < T := let_lt hT hm (by omega) q5
      obtain ⟨x6, ex6⟩ : ∃ q : Int32, q = nI i + 1 := ⟨_, rfl⟩
      refine ab_iinc (v := x6) (lv' := [some (.ref t), some (.int f), some (.int x6), none, none, none, none]) d_MText_word_24 rfl (by rw [ex6]; rfl) (by decide) rfl ?_
      refine ab_goto (tgt := 2) d_MText_word_27 (by decide) ?_
      subst ex6
      have heq : (sp_mw  mf T (n + 1) i ) = (sp_mw  mf T n (i + 1) ) := by rw [sp_mw]; rw [if_pos q5]; try rfl
      rw [nI_1]
      refine ab_widen (cells' := cells) (slots' := slots) (by first | exact Nat.le_refl _ | (show _ ≤ _; omega)) (by first | exact Nat.le_refl _ | (show _ ≤ _; omega)) ?_
      rw [heq] at hk
      exact ih (i + 1)  (by omega) (by omega) (fun q1 q2 => hk (by omega) q2)
    · refine ab_aload_n d_MText_word_13 rfl rfl rfl ?_
      refine ab_iload_n d_MText_word_14 rfl rfl ?_
      refine ab_callV_a (As := [.int (nI i)]) (rest := []) d_MText_word_15 (c_mf hl0 hT hT2 hm (nI_pos (by omega))) (ab_mkC s_MText_letter (Nat.le_of_ble_eq_true rfl) (Nat.le_of_ble_eq_true rfl) (by first | exact hcl | (show _ ≤ _; omega)) (by first | exact hsl | (show _ ≤ _; omega))) (k10 116 rfl rfl) i_MText_letter v_MText_letter go rfl rfl (Nat.le_of_ble_eq_true rfl) (fun h8 q7 => ?_)
      subst q7
      refine ab_callS_a (As := [.int (mf (nI i))]) (rest := []) d_MText_word_18 (c_MText_isDigit) (ab_mkC s_MText_isDigit (Nat.le_of_ble_eq_true rfl) (Nat.le_of_ble_eq_true rfl) (by first | exact hcl | (show _ ≤ _; omega)) (by first | exact hsl | (show _ ≤ _; omega))) (k10 131 rfl rfl) t_MText_isDigit rfl (Nat.le_of_ble_eq_true rfl) (fun h10 q9 => ?_)
      subst q9
      refine ab_if_eq (tgt := 30) d_MText_word_21 (by decide) (fun q11 => ?_) (fun q11 => ?_)
      · have heq : (sp_mw  mf T (n + 1) i ) = i := by rw [sp_mw]; rw [if_neg (fun z => z q5)]; rw [if_pos q11]; try rfl
        refine ab_widen (cells' := cells) (slots' := slots) (by first | exact Nat.le_refl _ | (show _ ≤ _; omega)) (by first | exact Nat.le_refl _ | (show _ ≤ _; omega)) ?_
        rw [heq] at hk
        exact hk (by first | omega | (show _ ≤ _; omega)) (by first | omega | (show _ ≤ _; omega))
      · have hlt : i < T := dig_lt hT hm (by omega) q11
        obtain ⟨x12, ex12⟩ : ∃ q : Int32, q = nI i + 1 := ⟨_, rfl⟩
        refine ab_iinc (v := x12) (lv' := [some (.ref t), some (.int f), some (.int x12), none, none, none, none]) d_MText_word_24 rfl (by rw [ex12]; rfl) (by decide) rfl ?_
        refine ab_goto (tgt := 2) d_MText_word_27 (by decide) ?_
        subst ex12
        have heq : (sp_mw  mf T (n + 1) i ) = (sp_mw  mf T n (i + 1) ) := by rw [sp_mw]; rw [if_neg (fun z => z q5)]; rw [if_neg q11]; try rfl
        rw [nI_1]
        refine ab_widen (cells' := cells) (slots' := slots) (by first | exact Nat.le_refl _ | (show _ ≤ _; omega)) (by first | exact Nat.le_refl _ | (show _ ≤ _; omega)) ?_
        rw [heq] at hk
        exact ih (i + 1)  (by omega) (by omega) (fun q1 q2 => hk (by omega) q2)
/-- a name ends on both sides at the same place -/
theorem mw_eq {s : Nat → Int32} {a : Nat → Nat → Int32} {mf bf : Int32 → Int32} {T : Nat} (hT : s 1 = nI T) (hT2 : T ≤ 6000) (hm : ∀ i, mt_byte s a i = mf i) (hr : ∀ i, bf i = mf i &&& 255) (hy : ∀ i, by_ok (mf i)) : ∀ (n i : Nat), i + n ≤ T → (i + n = T) → sp_mw mf T n i = sp_bn bf T n i := by
  intro n
  induction n with
  | zero => intro i _ _; rw [sp_mw_0, sp_bn_0]
  | succ n ih =>
    intro i h1 h2
    have e1 : sp_letter (bf (nI i)) = sp_MText_isLetter (mf (nI i)) := by rw [hr]; exact let_eq (hy _)
    have e2 : sp_digit (bf (nI i)) = sp_MText_isDigit (mf (nI i)) := by rw [hr]; exact dig_eq (hy _)
    rw [sp_mw, sp_bn, if_neg (fun z => absurd ((nI_leI (by omega) (by omega)).mp z) (by omega)), e1, e2]
    rw [ih (i + 1) (by omega) (by omega)]
