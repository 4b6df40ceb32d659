def y_MText_sign : ab_Y := (⟨"WorldEngineModel$Text", "sign", "(III)I"⟩, prog_16_method_10_code, 6, (some FieldType.int), [])
theorem d_MText_sign_0 : decode y_MText_sign.2.1 0 = .ok (.iload_n 2, 1) := by decide +kernel
theorem d_MText_sign_1 : decode y_MText_sign.2.1 1 = .ok (.bipush 60, 2) := by decide +kernel
theorem d_MText_sign_3 : decode y_MText_sign.2.1 3 = .ok (.if_icmp .ne 13, 3) := by decide +kernel
theorem d_MText_sign_6 : decode y_MText_sign.2.1 6 = .ok (.iload_n 3, 1) := by decide +kernel
theorem d_MText_sign_7 : decode y_MText_sign.2.1 7 = .ok (.bipush 61, 2) := by decide +kernel
theorem d_MText_sign_9 : decode y_MText_sign.2.1 9 = .ok (.if_icmp .ne 7, 3) := by decide +kernel
theorem d_MText_sign_12 : decode y_MText_sign.2.1 12 = .ok (.iconst 5, 1) := by decide +kernel
theorem d_MText_sign_13 : decode y_MText_sign.2.1 13 = .ok (.goto 89, 3) := by decide +kernel
theorem d_MText_sign_16 : decode y_MText_sign.2.1 16 = .ok (.iload_n 2, 1) := by decide +kernel
theorem d_MText_sign_17 : decode y_MText_sign.2.1 17 = .ok (.bipush 62, 2) := by decide +kernel
theorem d_MText_sign_19 : decode y_MText_sign.2.1 19 = .ok (.if_icmp .ne 14, 3) := by decide +kernel
theorem d_MText_sign_22 : decode y_MText_sign.2.1 22 = .ok (.iload_n 3, 1) := by decide +kernel
theorem d_MText_sign_23 : decode y_MText_sign.2.1 23 = .ok (.bipush 61, 2) := by decide +kernel
theorem d_MText_sign_25 : decode y_MText_sign.2.1 25 = .ok (.if_icmp .ne 8, 3) := by decide +kernel
theorem d_MText_sign_28 : decode y_MText_sign.2.1 28 = .ok (.bipush 6, 2) := by decide +kernel
theorem d_MText_sign_30 : decode y_MText_sign.2.1 30 = .ok (.goto 72, 3) := by decide +kernel
theorem d_MText_sign_33 : decode y_MText_sign.2.1 33 = .ok (.iload_n 2, 1) := by decide +kernel
theorem d_MText_sign_34 : decode y_MText_sign.2.1 34 = .ok (.bipush 61, 2) := by decide +kernel
theorem d_MText_sign_36 : decode y_MText_sign.2.1 36 = .ok (.if_icmp .ne 14, 3) := by decide +kernel
theorem d_MText_sign_39 : decode y_MText_sign.2.1 39 = .ok (.iload_n 3, 1) := by decide +kernel
theorem d_MText_sign_40 : decode y_MText_sign.2.1 40 = .ok (.bipush 61, 2) := by decide +kernel
theorem d_MText_sign_42 : decode y_MText_sign.2.1 42 = .ok (.if_icmp .ne 8, 3) := by decide +kernel
theorem d_MText_sign_45 : decode y_MText_sign.2.1 45 = .ok (.bipush 7, 2) := by decide +kernel
theorem d_MText_sign_47 : decode y_MText_sign.2.1 47 = .ok (.goto 55, 3) := by decide +kernel
theorem d_MText_sign_50 : decode y_MText_sign.2.1 50 = .ok (.iload_n 2, 1) := by decide +kernel
theorem d_MText_sign_51 : decode y_MText_sign.2.1 51 = .ok (.bipush 33, 2) := by decide +kernel
theorem d_MText_sign_53 : decode y_MText_sign.2.1 53 = .ok (.if_icmp .ne 14, 3) := by decide +kernel
theorem d_MText_sign_56 : decode y_MText_sign.2.1 56 = .ok (.iload_n 3, 1) := by decide +kernel
theorem d_MText_sign_57 : decode y_MText_sign.2.1 57 = .ok (.bipush 61, 2) := by decide +kernel
theorem d_MText_sign_59 : decode y_MText_sign.2.1 59 = .ok (.if_icmp .ne 8, 3) := by decide +kernel
theorem d_MText_sign_62 : decode y_MText_sign.2.1 62 = .ok (.bipush 8, 2) := by decide +kernel
theorem d_MText_sign_64 : decode y_MText_sign.2.1 64 = .ok (.goto 38, 3) := by decide +kernel
theorem d_MText_sign_67 : decode y_MText_sign.2.1 67 = .ok (.iload_n 2, 1) := by decide +kernel
theorem d_MText_sign_68 : decode y_MText_sign.2.1 68 = .ok (.bipush 38, 2) := by decide +kernel
theorem d_MText_sign_70 : decode y_MText_sign.2.1 70 = .ok (.if_icmp .ne 14, 3) := by decide +kernel
theorem d_MText_sign_73 : decode y_MText_sign.2.1 73 = .ok (.iload_n 3, 1) := by decide +kernel
theorem d_MText_sign_74 : decode y_MText_sign.2.1 74 = .ok (.bipush 38, 2) := by decide +kernel
theorem d_MText_sign_76 : decode y_MText_sign.2.1 76 = .ok (.if_icmp .ne 8, 3) := by decide +kernel
theorem d_MText_sign_79 : decode y_MText_sign.2.1 79 = .ok (.bipush 9, 2) := by decide +kernel
theorem d_MText_sign_81 : decode y_MText_sign.2.1 81 = .ok (.goto 21, 3) := by decide +kernel
theorem d_MText_sign_84 : decode y_MText_sign.2.1 84 = .ok (.iload_n 2, 1) := by decide +kernel
theorem d_MText_sign_85 : decode y_MText_sign.2.1 85 = .ok (.bipush 124, 2) := by decide +kernel
theorem d_MText_sign_87 : decode y_MText_sign.2.1 87 = .ok (.if_icmp .ne 14, 3) := by decide +kernel
theorem d_MText_sign_90 : decode y_MText_sign.2.1 90 = .ok (.iload_n 3, 1) := by decide +kernel
theorem d_MText_sign_91 : decode y_MText_sign.2.1 91 = .ok (.bipush 124, 2) := by decide +kernel
theorem d_MText_sign_93 : decode y_MText_sign.2.1 93 = .ok (.if_icmp .ne 8, 3) := by decide +kernel
theorem d_MText_sign_96 : decode y_MText_sign.2.1 96 = .ok (.bipush 10, 2) := by decide +kernel
theorem d_MText_sign_98 : decode y_MText_sign.2.1 98 = .ok (.goto 4, 3) := by decide +kernel
theorem d_MText_sign_101 : decode y_MText_sign.2.1 101 = .ok (.iconst 0, 1) := by decide +kernel
theorem d_MText_sign_102 : decode y_MText_sign.2.1 102 = .ok (.istore 4, 2) := by decide +kernel
theorem d_MText_sign_104 : decode y_MText_sign.2.1 104 = .ok (.iload_n 2, 1) := by decide +kernel
theorem d_MText_sign_105 : decode y_MText_sign.2.1 105 = .ok (.bipush 123, 2) := by decide +kernel
theorem d_MText_sign_107 : decode y_MText_sign.2.1 107 = .ok (.if_icmp .eq 93, 3) := by decide +kernel
theorem d_MText_sign_110 : decode y_MText_sign.2.1 110 = .ok (.iload_n 2, 1) := by decide +kernel
theorem d_MText_sign_111 : decode y_MText_sign.2.1 111 = .ok (.bipush 125, 2) := by decide +kernel
theorem d_MText_sign_113 : decode y_MText_sign.2.1 113 = .ok (.if_icmp .eq 87, 3) := by decide +kernel
theorem d_MText_sign_116 : decode y_MText_sign.2.1 116 = .ok (.iload_n 2, 1) := by decide +kernel
theorem d_MText_sign_117 : decode y_MText_sign.2.1 117 = .ok (.bipush 40, 2) := by decide +kernel
theorem d_MText_sign_119 : decode y_MText_sign.2.1 119 = .ok (.if_icmp .eq 81, 3) := by decide +kernel
theorem d_MText_sign_122 : decode y_MText_sign.2.1 122 = .ok (.iload_n 2, 1) := by decide +kernel
theorem d_MText_sign_123 : decode y_MText_sign.2.1 123 = .ok (.bipush 41, 2) := by decide +kernel
theorem d_MText_sign_125 : decode y_MText_sign.2.1 125 = .ok (.if_icmp .eq 75, 3) := by decide +kernel
theorem d_MText_sign_128 : decode y_MText_sign.2.1 128 = .ok (.iload_n 2, 1) := by decide +kernel
theorem d_MText_sign_129 : decode y_MText_sign.2.1 129 = .ok (.bipush 44, 2) := by decide +kernel
theorem d_MText_sign_131 : decode y_MText_sign.2.1 131 = .ok (.if_icmp .eq 69, 3) := by decide +kernel
theorem d_MText_sign_134 : decode y_MText_sign.2.1 134 = .ok (.iload_n 2, 1) := by decide +kernel
theorem d_MText_sign_135 : decode y_MText_sign.2.1 135 = .ok (.bipush 59, 2) := by decide +kernel
theorem d_MText_sign_137 : decode y_MText_sign.2.1 137 = .ok (.if_icmp .eq 63, 3) := by decide +kernel
theorem d_MText_sign_140 : decode y_MText_sign.2.1 140 = .ok (.iload_n 2, 1) := by decide +kernel
theorem d_MText_sign_141 : decode y_MText_sign.2.1 141 = .ok (.bipush 46, 2) := by decide +kernel
theorem d_MText_sign_143 : decode y_MText_sign.2.1 143 = .ok (.if_icmp .eq 57, 3) := by decide +kernel
theorem d_MText_sign_146 : decode y_MText_sign.2.1 146 = .ok (.iload_n 2, 1) := by decide +kernel
theorem d_MText_sign_147 : decode y_MText_sign.2.1 147 = .ok (.bipush 61, 2) := by decide +kernel
theorem d_MText_sign_149 : decode y_MText_sign.2.1 149 = .ok (.if_icmp .eq 51, 3) := by decide +kernel
theorem d_MText_sign_152 : decode y_MText_sign.2.1 152 = .ok (.iload_n 2, 1) := by decide +kernel
theorem d_MText_sign_153 : decode y_MText_sign.2.1 153 = .ok (.bipush 43, 2) := by decide +kernel
theorem d_MText_sign_155 : decode y_MText_sign.2.1 155 = .ok (.if_icmp .eq 45, 3) := by decide +kernel
theorem d_MText_sign_158 : decode y_MText_sign.2.1 158 = .ok (.iload_n 2, 1) := by decide +kernel
theorem d_MText_sign_159 : decode y_MText_sign.2.1 159 = .ok (.bipush 45, 2) := by decide +kernel
theorem d_MText_sign_161 : decode y_MText_sign.2.1 161 = .ok (.if_icmp .eq 39, 3) := by decide +kernel
theorem d_MText_sign_164 : decode y_MText_sign.2.1 164 = .ok (.iload_n 2, 1) := by decide +kernel
theorem d_MText_sign_165 : decode y_MText_sign.2.1 165 = .ok (.bipush 42, 2) := by decide +kernel
theorem d_MText_sign_167 : decode y_MText_sign.2.1 167 = .ok (.if_icmp .eq 33, 3) := by decide +kernel
theorem d_MText_sign_170 : decode y_MText_sign.2.1 170 = .ok (.iload_n 2, 1) := by decide +kernel
theorem d_MText_sign_171 : decode y_MText_sign.2.1 171 = .ok (.bipush 47, 2) := by decide +kernel
theorem d_MText_sign_173 : decode y_MText_sign.2.1 173 = .ok (.if_icmp .eq 27, 3) := by decide +kernel
theorem d_MText_sign_176 : decode y_MText_sign.2.1 176 = .ok (.iload_n 2, 1) := by decide +kernel
theorem d_MText_sign_177 : decode y_MText_sign.2.1 177 = .ok (.bipush 37, 2) := by decide +kernel
theorem d_MText_sign_179 : decode y_MText_sign.2.1 179 = .ok (.if_icmp .eq 21, 3) := by decide +kernel
theorem d_MText_sign_182 : decode y_MText_sign.2.1 182 = .ok (.iload_n 2, 1) := by decide +kernel
theorem d_MText_sign_183 : decode y_MText_sign.2.1 183 = .ok (.bipush 60, 2) := by decide +kernel
theorem d_MText_sign_185 : decode y_MText_sign.2.1 185 = .ok (.if_icmp .eq 15, 3) := by decide +kernel
theorem d_MText_sign_188 : decode y_MText_sign.2.1 188 = .ok (.iload_n 2, 1) := by decide +kernel
theorem d_MText_sign_189 : decode y_MText_sign.2.1 189 = .ok (.bipush 62, 2) := by decide +kernel
theorem d_MText_sign_191 : decode y_MText_sign.2.1 191 = .ok (.if_icmp .eq 9, 3) := by decide +kernel
theorem d_MText_sign_194 : decode y_MText_sign.2.1 194 = .ok (.iload_n 2, 1) := by decide +kernel
theorem d_MText_sign_195 : decode y_MText_sign.2.1 195 = .ok (.bipush 33, 2) := by decide +kernel
theorem d_MText_sign_197 : decode y_MText_sign.2.1 197 = .ok (.if_icmp .ne 7, 3) := by decide +kernel
theorem d_MText_sign_200 : decode y_MText_sign.2.1 200 = .ok (.iconst 1, 1) := by decide +kernel
theorem d_MText_sign_201 : decode y_MText_sign.2.1 201 = .ok (.goto 4, 3) := by decide +kernel
theorem d_MText_sign_204 : decode y_MText_sign.2.1 204 = .ok (.iconst 0, 1) := by decide +kernel
theorem d_MText_sign_205 : decode y_MText_sign.2.1 205 = .ok (.istore 5, 2) := by decide +kernel
theorem d_MText_sign_207 : decode y_MText_sign.2.1 207 = .ok (.aload_n 0, 1) := by decide +kernel
theorem d_MText_sign_208 : decode y_MText_sign.2.1 208 = .ok (.iload 4, 2) := by decide +kernel
theorem d_MText_sign_210 : decode y_MText_sign.2.1 210 = .ok (.ifCond .le 8, 3) := by decide +kernel
theorem d_MText_sign_213 : decode y_MText_sign.2.1 213 = .ok (.iload 4, 2) := by decide +kernel
theorem d_MText_sign_215 : decode y_MText_sign.2.1 215 = .ok (.goto 13, 3) := by decide +kernel
theorem d_MText_sign_218 : decode y_MText_sign.2.1 218 = .ok (.iload 5, 2) := by decide +kernel
theorem d_MText_sign_220 : decode y_MText_sign.2.1 220 = .ok (.ifCond .eq 7, 3) := by decide +kernel
theorem d_MText_sign_223 : decode y_MText_sign.2.1 223 = .ok (.iload_n 2, 1) := by decide +kernel
theorem d_MText_sign_224 : decode y_MText_sign.2.1 224 = .ok (.goto 4, 3) := by decide +kernel
theorem d_MText_sign_227 : decode y_MText_sign.2.1 227 = .ok (.iconst 4, 1) := by decide +kernel
theorem d_MText_sign_228 : decode y_MText_sign.2.1 228 = .ok (.iload_n 1, 1) := by decide +kernel
theorem d_MText_sign_229 : decode y_MText_sign.2.1 229 = .ok (.iload_n 1, 1) := by decide +kernel
theorem d_MText_sign_230 : decode y_MText_sign.2.1 230 = .ok (.iload 4, 2) := by decide +kernel
theorem d_MText_sign_232 : decode y_MText_sign.2.1 232 = .ok (.ifCond .le 7, 3) := by decide +kernel
theorem d_MText_sign_235 : decode y_MText_sign.2.1 235 = .ok (.iconst 2, 1) := by decide +kernel
theorem d_MText_sign_236 : decode y_MText_sign.2.1 236 = .ok (.goto 4, 3) := by decide +kernel
theorem d_MText_sign_239 : decode y_MText_sign.2.1 239 = .ok (.iconst 1, 1) := by decide +kernel
theorem d_MText_sign_240 : decode y_MText_sign.2.1 240 = .ok (.iadd, 1) := by decide +kernel
theorem d_MText_sign_241 : decode y_MText_sign.2.1 241 = .ok (.invokevirtual 118, 3) := by decide +kernel
theorem d_MText_sign_244 : decode y_MText_sign.2.1 244 = .ok (.iload_n 1, 1) := by decide +kernel
theorem d_MText_sign_245 : decode y_MText_sign.2.1 245 = .ok (.iload 4, 2) := by decide +kernel
theorem d_MText_sign_247 : decode y_MText_sign.2.1 247 = .ok (.ifCond .le 7, 3) := by decide +kernel
theorem d_MText_sign_250 : decode y_MText_sign.2.1 250 = .ok (.iconst 2, 1) := by decide +kernel
theorem d_MText_sign_251 : decode y_MText_sign.2.1 251 = .ok (.goto 4, 3) := by decide +kernel
theorem d_MText_sign_254 : decode y_MText_sign.2.1 254 = .ok (.iconst 1, 1) := by decide +kernel
theorem d_MText_sign_255 : decode y_MText_sign.2.1 255 = .ok (.iadd, 1) := by decide +kernel
theorem d_MText_sign_256 : decode y_MText_sign.2.1 256 = .ok (.ireturn, 1) := by decide +kernel
theorem s_MText_sign : ab_Stat y_MText_sign 3 := ⟨(k10 151 rfl rfl), (k1 20 rfl rfl), ⟨by decide, by decide⟩, by decide +kernel⟩
theorem i_MText_sign : Cond.instanceMethod y_MText_sign.1 ∈ ab_T := (k10 150 rfl rfl)
theorem v_MText_sign : Cond.selects "WorldEngineModel$Text" y_MText_sign.1 y_MText_sign.1 ∈ ab_T := ab_s (List.mem_of_getElem? (i := 113) rfl) rfl
def sgn_len (x : Int32) : Nat := if x ≤ 0 then 1 else 2
def sgn_ty (x y c : Int32) : Int32 := if x ≤ 0 then (if y = 0 then 4 else c) else x
set_option maxRecDepth 20000 in
set_option maxHeartbeats 4000000 in
theorem sgC {h : List ab_E} {t : Nat} {s : Nat → Int32} {a : Nat → Nat → Int32} {p n : Nat} {c d : Int32} {x y : Int32} (hl : at_MText h t s a) (hc : s 2 = nI n) (hc2 : n < 6002) : ab_V y_MText_sign { frames := 1, cells := 0, slots := 0, locals := 40 } (ab_A (some (.int (nI (p + sgn_len x)))) (fun h1 => at_MText h1 t (sp_MText_token s a (sgn_ty x y c) (nI p) (nI (p + sgn_len x))).1 (sp_MText_token s a (sgn_ty x y c) (nI p) (nI (p + sgn_len x))).2 ∧ ab_fr (in_MText t) h h1)) ({ frames := 1, cells := 0, slots := 0, locals := 40 } : Room).cells ({ frames := 1, cells := 0, slots := 0, locals := 40 } : Room).slots 0 0 205 [some (.ref t), some (.int (nI p)), some (.int c), some (.int d), some (.int x), none] [.int y] h := by
  have hl0 := hl; obtain ⟨go, g0, g3, g4, g5, g6, g7, g8, g13, g14, g15, g17, g18, g19, g20, g22, g23, g24, g25, g27, g28, g30, g31, g32, g33, g34, g35, g36, g38, g39, g40⟩ := hl
  refine ab_istore (lv' := [some (.ref t), some (.int (nI p)), some (.int c), some (.int d), some (.int x), some (.int y)]) d_MText_sign_205 (by decide) rfl ?_
  refine ab_aload_n d_MText_sign_207 rfl rfl rfl ?_
  refine ab_iload d_MText_sign_208 rfl ?_
  refine ab_if_le (tgt := 218) d_MText_sign_210 (by decide) (fun q1 => ?_) (fun q1 => ?_)
  · refine ab_iload d_MText_sign_218 rfl ?_
    refine ab_if_eq (tgt := 227) d_MText_sign_220 (by decide) (fun q2 => ?_) (fun q2 => ?_)
    · refine ab_iconst (v := 4) d_MText_sign_227 (by decide) ?_
      refine ab_iload_n d_MText_sign_228 rfl rfl ?_
      refine ab_iload_n d_MText_sign_229 rfl rfl ?_
      refine ab_iload d_MText_sign_230 rfl ?_
      refine ab_if_le (tgt := 239) d_MText_sign_232 (by decide) (fun q3 => ?_) (fun q3 => by exact absurd (by first | assumption | exact Int32.not_lt.mp (by assumption) | exact Int32.not_le.mp (by assumption)) q3)
      refine ab_iconst (v := 1) d_MText_sign_239 (by decide) ?_
      refine ab_iadd d_MText_sign_240 ?_
      refine ab_topi (fun x4 ex4 => ?_)
      obtain rfl : x4 = nI (p + 1) := ex4.trans (nI_add p 1)
      clear ex4
      refine ab_callV_v (As := [.int 4, .int (nI p), .int (nI (p + 1))]) (rest := []) d_MText_sign_241 (c_MText_token hl0 hc hc2) (ab_mkC s_MText_token (Nat.le_of_ble_eq_true rfl) (Nat.le_of_ble_eq_true rfl) (by decide) (by decide)) (k10 120 rfl rfl) i_MText_token v_MText_token go rfl rfl (Nat.le_of_ble_eq_true rfl) (fun h5 qn6 => ?_)
      refine ab_iload_n d_MText_sign_244 rfl rfl ?_
      refine ab_iload d_MText_sign_245 rfl ?_
      refine ab_if_le (tgt := 254) d_MText_sign_247 (by decide) (fun q7 => ?_) (fun q7 => by exact absurd (by first | assumption | exact Int32.not_lt.mp (by assumption) | exact Int32.not_le.mp (by assumption)) q7)
      refine ab_iconst (v := 1) d_MText_sign_254 (by decide) ?_
      refine ab_iadd d_MText_sign_255 ?_
      refine ab_topi (fun x8 ex8 => ?_)
      obtain rfl : x8 = nI (p + 1) := ex8.trans (nI_add p 1)
      clear ex8
      exact ab_iret d_MText_sign_256 rfl (Nat.le_refl _) (Nat.le_refl _) (by have e1 : sgn_len x = 1 := (by unfold sgn_len; rw [if_pos q1]); have e2 : sgn_ty x y c = 4 := (by unfold sgn_ty; rw [if_pos q1]; rw [if_pos q2]; try rfl); rw [e1, e2]; exact ⟨rfl, qn6⟩)
    · refine ab_iload_n d_MText_sign_223 rfl rfl ?_
      refine ab_goto (tgt := 228) d_MText_sign_224 (by decide) ?_
      refine ab_iload_n d_MText_sign_228 rfl rfl ?_
      refine ab_iload_n d_MText_sign_229 rfl rfl ?_
      refine ab_iload d_MText_sign_230 rfl ?_
      refine ab_if_le (tgt := 239) d_MText_sign_232 (by decide) (fun q9 => ?_) (fun q9 => by exact absurd (by first | assumption | exact Int32.not_lt.mp (by assumption) | exact Int32.not_le.mp (by assumption)) q9)
      refine ab_iconst (v := 1) d_MText_sign_239 (by decide) ?_
      refine ab_iadd d_MText_sign_240 ?_
      refine ab_topi (fun x10 ex10 => ?_)
      obtain rfl : x10 = nI (p + 1) := ex10.trans (nI_add p 1)
      clear ex10
      refine ab_callV_v (As := [.int c, .int (nI p), .int (nI (p + 1))]) (rest := []) d_MText_sign_241 (c_MText_token hl0 hc hc2) (ab_mkC s_MText_token (Nat.le_of_ble_eq_true rfl) (Nat.le_of_ble_eq_true rfl) (by decide) (by decide)) (k10 120 rfl rfl) i_MText_token v_MText_token go rfl rfl (Nat.le_of_ble_eq_true rfl) (fun h11 qn12 => ?_)
      refine ab_iload_n d_MText_sign_244 rfl rfl ?_
      refine ab_iload d_MText_sign_245 rfl ?_
      refine ab_if_le (tgt := 254) d_MText_sign_247 (by decide) (fun q13 => ?_) (fun q13 => by exact absurd (by first | assumption | exact Int32.not_lt.mp (by assumption) | exact Int32.not_le.mp (by assumption)) q13)
      refine ab_iconst (v := 1) d_MText_sign_254 (by decide) ?_
      refine ab_iadd d_MText_sign_255 ?_
      refine ab_topi (fun x14 ex14 => ?_)
      obtain rfl : x14 = nI (p + 1) := ex14.trans (nI_add p 1)
      clear ex14
      exact ab_iret d_MText_sign_256 rfl (Nat.le_refl _) (Nat.le_refl _) (by have e1 : sgn_len x = 1 := (by unfold sgn_len; rw [if_pos q1]); have e2 : sgn_ty x y c = c := (by unfold sgn_ty; rw [if_pos q1]; rw [if_neg q2]; try rfl); rw [e1, e2]; exact ⟨rfl, qn12⟩)
  · refine ab_iload d_MText_sign_213 rfl ?_
    refine ab_goto (tgt := 228) d_MText_sign_215 (by decide) ?_
    refine ab_iload_n d_MText_sign_228 rfl rfl ?_
    refine ab_iload_n d_MText_sign_229 rfl rfl ?_
    refine ab_iload d_MText_sign_230 rfl ?_
    refine ab_if_le (tgt := 239) d_MText_sign_232 (by decide) (fun q15 => by exact absurd q15 (by first | assumption | exact Int32.not_lt.mpr (by assumption) | exact Int32.not_le.mpr (by assumption))) (fun q15 => ?_)
    refine ab_iconst (v := 2) d_MText_sign_235 (by decide) ?_
    refine ab_goto (tgt := 240) d_MText_sign_236 (by decide) ?_
    refine ab_iadd d_MText_sign_240 ?_
    refine ab_topi (fun x16 ex16 => ?_)
    obtain rfl : x16 = nI (p + 2) := ex16.trans (nI_add p 2)
    clear ex16
    refine ab_callV_v (As := [.int x, .int (nI p), .int (nI (p + 2))]) (rest := []) d_MText_sign_241 (c_MText_token hl0 hc hc2) (ab_mkC s_MText_token (Nat.le_of_ble_eq_true rfl) (Nat.le_of_ble_eq_true rfl) (by decide) (by decide)) (k10 120 rfl rfl) i_MText_token v_MText_token go rfl rfl (Nat.le_of_ble_eq_true rfl) (fun h17 qn18 => ?_)
    refine ab_iload_n d_MText_sign_244 rfl rfl ?_
    refine ab_iload d_MText_sign_245 rfl ?_
    refine ab_if_le (tgt := 254) d_MText_sign_247 (by decide) (fun q19 => by exact absurd q19 (by first | assumption | exact Int32.not_lt.mpr (by assumption) | exact Int32.not_le.mpr (by assumption))) (fun q19 => ?_)
    refine ab_iconst (v := 2) d_MText_sign_250 (by decide) ?_
    refine ab_goto (tgt := 255) d_MText_sign_251 (by decide) ?_
    refine ab_iadd d_MText_sign_255 ?_
    refine ab_topi (fun x20 ex20 => ?_)
    obtain rfl : x20 = nI (p + 2) := ex20.trans (nI_add p 2)
    clear ex20
    exact ab_iret d_MText_sign_256 rfl (Nat.le_refl _) (Nat.le_refl _) (by have e1 : sgn_len x = 2 := (by unfold sgn_len; rw [if_neg q1]); have e2 : sgn_ty x y c = x := (by unfold sgn_ty; rw [if_neg q1]; try rfl); rw [e1, e2]; exact ⟨rfl, qn18⟩)
def mt_one (c : Int32) : Int32 := if c = (123 : Int32) then (1) else if c = (125 : Int32) then (1) else if c = (40 : Int32) then (1) else if c = (41 : Int32) then (1) else if c = (44 : Int32) then (1) else if c = (59 : Int32) then (1) else if c = (46 : Int32) then (1) else if c = (61 : Int32) then (1) else if c = (43 : Int32) then (1) else if c = (45 : Int32) then (1) else if c = (42 : Int32) then (1) else if c = (47 : Int32) then (1) else if c = (37 : Int32) then (1) else if c = (60 : Int32) then (1) else if c = (62 : Int32) then (1) else if ¬ c = (33 : Int32) then (0) else (1)
set_option maxRecDepth 20000 in
set_option maxHeartbeats 4000000 in
theorem sgB {h : List ab_E} {t : Nat} {s : Nat → Int32} {a : Nat → Nat → Int32} {p n : Nat} {c d : Int32} {x : Int32} (hl : at_MText h t s a) (hc : s 2 = nI n) (hc2 : n < 6002) : ab_V y_MText_sign { frames := 1, cells := 0, slots := 0, locals := 40 } (ab_A (some (.int (nI (p + sgn_len x)))) (fun h1 => at_MText h1 t (sp_MText_token s a (sgn_ty x (mt_one c) c) (nI p) (nI (p + sgn_len x))).1 (sp_MText_token s a (sgn_ty x (mt_one c) c) (nI p) (nI (p + sgn_len x))).2 ∧ ab_fr (in_MText t) h h1)) ({ frames := 1, cells := 0, slots := 0, locals := 40 } : Room).cells ({ frames := 1, cells := 0, slots := 0, locals := 40 } : Room).slots 0 0 102 [some (.ref t), some (.int (nI p)), some (.int c), some (.int d), none, none] [.int x] h := by
  have hl0 := hl; obtain ⟨go, g0, g3, g4, g5, g6, g7, g8, g13, g14, g15, g17, g18, g19, g20, g22, g23, g24, g25, g27, g28, g30, g31, g32, g33, g34, g35, g36, g38, g39, g40⟩ := hl
  refine ab_istore (lv' := [some (.ref t), some (.int (nI p)), some (.int c), some (.int d), some (.int x), none]) d_MText_sign_102 (by decide) rfl ?_
  refine ab_iload_n d_MText_sign_104 rfl rfl ?_
  refine ab_bipush (v := 123) d_MText_sign_105 (by decide) ?_
  refine ab_icmp_eq (tgt := 200) d_MText_sign_107 (by decide) (fun q1 => ?_) (fun q1 => ?_)
  · refine ab_iconst (v := 1) d_MText_sign_200 (by decide) ?_
    refine ab_goto (tgt := 205) d_MText_sign_201 (by decide) ?_
    exact (show mt_one c = 1 from (by unfold mt_one; rw [if_pos q1]; try rfl)) ▸ sgC hl0 hc hc2
  · refine ab_iload_n d_MText_sign_110 rfl rfl ?_
    refine ab_bipush (v := 125) d_MText_sign_111 (by decide) ?_
    refine ab_icmp_eq (tgt := 200) d_MText_sign_113 (by decide) (fun q2 => ?_) (fun q2 => ?_)
    · refine ab_iconst (v := 1) d_MText_sign_200 (by decide) ?_
      refine ab_goto (tgt := 205) d_MText_sign_201 (by decide) ?_
      exact (show mt_one c = 1 from (by unfold mt_one; rw [if_neg q1]; rw [if_pos q2]; try rfl)) ▸ sgC hl0 hc hc2
    · refine ab_iload_n d_MText_sign_116 rfl rfl ?_
      refine ab_bipush (v := 40) d_MText_sign_117 (by decide) ?_
      refine ab_icmp_eq (tgt := 200) d_MText_sign_119 (by decide) (fun q3 => ?_) (fun q3 => ?_)
      · refine ab_iconst (v := 1) d_MText_sign_200 (by decide) ?_
        refine ab_goto (tgt := 205) d_MText_sign_201 (by decide) ?_
        exact (show mt_one c = 1 from (by unfold mt_one; rw [if_neg q1]; rw [if_neg q2]; rw [if_pos q3]; try rfl)) ▸ sgC hl0 hc hc2
      · refine ab_iload_n d_MText_sign_122 rfl rfl ?_
        refine ab_bipush (v := 41) d_MText_sign_123 (by decide) ?_
        refine ab_icmp_eq (tgt := 200) d_MText_sign_125 (by decide) (fun q4 => ?_) (fun q4 => ?_)
        · refine ab_iconst (v := 1) d_MText_sign_200 (by decide) ?_
          refine ab_goto (tgt := 205) d_MText_sign_201 (by decide) ?_
          exact (show mt_one c = 1 from (by unfold mt_one; rw [if_neg q1]; rw [if_neg q2]; rw [if_neg q3]; rw [if_pos q4]; try rfl)) ▸ sgC hl0 hc hc2
        · refine ab_iload_n d_MText_sign_128 rfl rfl ?_
          refine ab_bipush (v := 44) d_MText_sign_129 (by decide) ?_
          refine ab_icmp_eq (tgt := 200) d_MText_sign_131 (by decide) (fun q5 => ?_) (fun q5 => ?_)
          · refine ab_iconst (v := 1) d_MText_sign_200 (by decide) ?_
            refine ab_goto (tgt := 205) d_MText_sign_201 (by decide) ?_
            exact (show mt_one c = 1 from (by unfold mt_one; rw [if_neg q1]; rw [if_neg q2]; rw [if_neg q3]; rw [if_neg q4]; rw [if_pos q5]; try rfl)) ▸ sgC hl0 hc hc2
          · refine ab_iload_n d_MText_sign_134 rfl rfl ?_
            refine ab_bipush (v := 59) d_MText_sign_135 (by decide) ?_
            refine ab_icmp_eq (tgt := 200) d_MText_sign_137 (by decide) (fun q6 => ?_) (fun q6 => ?_)
            · refine ab_iconst (v := 1) d_MText_sign_200 (by decide) ?_
              refine ab_goto (tgt := 205) d_MText_sign_201 (by decide) ?_
              exact (show mt_one c = 1 from (by unfold mt_one; rw [if_neg q1]; rw [if_neg q2]; rw [if_neg q3]; rw [if_neg q4]; rw [if_neg q5]; rw [if_pos q6]; try rfl)) ▸ sgC hl0 hc hc2
            · refine ab_iload_n d_MText_sign_140 rfl rfl ?_
              refine ab_bipush (v := 46) d_MText_sign_141 (by decide) ?_
              refine ab_icmp_eq (tgt := 200) d_MText_sign_143 (by decide) (fun q7 => ?_) (fun q7 => ?_)
              · refine ab_iconst (v := 1) d_MText_sign_200 (by decide) ?_
                refine ab_goto (tgt := 205) d_MText_sign_201 (by decide) ?_
                exact (show mt_one c = 1 from (by unfold mt_one; rw [if_neg q1]; rw [if_neg q2]; rw [if_neg q3]; rw [if_neg q4]; rw [if_neg q5]; rw [if_neg q6]; rw [if_pos q7]; try rfl)) ▸ sgC hl0 hc hc2
              · refine ab_iload_n d_MText_sign_146 rfl rfl ?_
                refine ab_bipush (v := 61) d_MText_sign_147 (by decide) ?_
                refine ab_icmp_eq (tgt := 200) d_MText_sign_149 (by decide) (fun q8 => ?_) (fun q8 => ?_)
                · refine ab_iconst (v := 1) d_MText_sign_200 (by decide) ?_
                  refine ab_goto (tgt := 205) d_MText_sign_201 (by decide) ?_
                  exact (show mt_one c = 1 from (by unfold mt_one; rw [if_neg q1]; rw [if_neg q2]; rw [if_neg q3]; rw [if_neg q4]; rw [if_neg q5]; rw [if_neg q6]; rw [if_neg q7]; rw [if_pos q8]; try rfl)) ▸ sgC hl0 hc hc2
                · refine ab_iload_n d_MText_sign_152 rfl rfl ?_
                  refine ab_bipush (v := 43) d_MText_sign_153 (by decide) ?_
                  refine ab_icmp_eq (tgt := 200) d_MText_sign_155 (by decide) (fun q9 => ?_) (fun q9 => ?_)
                  · refine ab_iconst (v := 1) d_MText_sign_200 (by decide) ?_
                    refine ab_goto (tgt := 205) d_MText_sign_201 (by decide) ?_
                    exact (show mt_one c = 1 from (by unfold mt_one; rw [if_neg q1]; rw [if_neg q2]; rw [if_neg q3]; rw [if_neg q4]; rw [if_neg q5]; rw [if_neg q6]; rw [if_neg q7]; rw [if_neg q8]; rw [if_pos q9]; try rfl)) ▸ sgC hl0 hc hc2
                  · refine ab_iload_n d_MText_sign_158 rfl rfl ?_
                    refine ab_bipush (v := 45) d_MText_sign_159 (by decide) ?_
                    refine ab_icmp_eq (tgt := 200) d_MText_sign_161 (by decide) (fun q10 => ?_) (fun q10 => ?_)
                    · refine ab_iconst (v := 1) d_MText_sign_200 (by decide) ?_
                      refine ab_goto (tgt := 205) d_MText_sign_201 (by decide) ?_
                      exact (show mt_one c = 1 from (by unfold mt_one; rw [if_neg q1]; rw [if_neg q2]; rw [if_neg q3]; rw [if_neg q4]; rw [if_neg q5]; rw [if_neg q6]; rw [if_neg q7]; rw [if_neg q8]; rw [if_neg q9]; rw [if_pos q10]; try rfl)) ▸ sgC hl0 hc hc2
                    · refine ab_iload_n d_MText_sign_164 rfl rfl ?_
                      refine ab_bipush (v := 42) d_MText_sign_165 (by decide) ?_
                      refine ab_icmp_eq (tgt := 200) d_MText_sign_167 (by decide) (fun q11 => ?_) (fun q11 => ?_)
                      · refine ab_iconst (v := 1) d_MText_sign_200 (by decide) ?_
                        refine ab_goto (tgt := 205) d_MText_sign_201 (by decide) ?_
                        exact (show mt_one c = 1 from (by unfold mt_one; rw [if_neg q1]; rw [if_neg q2]; rw [if_neg q3]; rw [if_neg q4]; rw [if_neg q5]; rw [if_neg q6]; rw [if_neg q7]; rw [if_neg q8]; rw [if_neg q9]; rw [if_neg q10]; rw [if_pos q11]; try rfl)) ▸ sgC hl0 hc hc2
                      · refine ab_iload_n d_MText_sign_170 rfl rfl ?_
                        refine ab_bipush (v := 47) d_MText_sign_171 (by decide) ?_
                        refine ab_icmp_eq (tgt := 200) d_MText_sign_173 (by decide) (fun q12 => ?_) (fun q12 => ?_)
                        · refine ab_iconst (v := 1) d_MText_sign_200 (by decide) ?_
                          refine ab_goto (tgt := 205) d_MText_sign_201 (by decide) ?_
                          exact (show mt_one c = 1 from (by unfold mt_one; rw [if_neg q1]; rw [if_neg q2]; rw [if_neg q3]; rw [if_neg q4]; rw [if_neg q5]; rw [if_neg q6]; rw [if_neg q7]; rw [if_neg q8]; rw [if_neg q9]; rw [if_neg q10]; rw [if_neg q11]; rw [if_pos q12]; try rfl)) ▸ sgC hl0 hc hc2
                        · refine ab_iload_n d_MText_sign_176 rfl rfl ?_
                          refine ab_bipush (v := 37) d_MText_sign_177 (by decide) ?_
                          refine ab_icmp_eq (tgt := 200) d_MText_sign_179 (by decide) (fun q13 => ?_) (fun q13 => ?_)
                          · refine ab_iconst (v := 1) d_MText_sign_200 (by decide) ?_
                            refine ab_goto (tgt := 205) d_MText_sign_201 (by decide) ?_
                            exact (show mt_one c = 1 from (by unfold mt_one; rw [if_neg q1]; rw [if_neg q2]; rw [if_neg q3]; rw [if_neg q4]; rw [if_neg q5]; rw [if_neg q6]; rw [if_neg q7]; rw [if_neg q8]; rw [if_neg q9]; rw [if_neg q10]; rw [if_neg q11]; rw [if_neg q12]; rw [if_pos q13]; try rfl)) ▸ sgC hl0 hc hc2
                          · refine ab_iload_n d_MText_sign_182 rfl rfl ?_
                            refine ab_bipush (v := 60) d_MText_sign_183 (by decide) ?_
                            refine ab_icmp_eq (tgt := 200) d_MText_sign_185 (by decide) (fun q14 => ?_) (fun q14 => ?_)
                            · refine ab_iconst (v := 1) d_MText_sign_200 (by decide) ?_
                              refine ab_goto (tgt := 205) d_MText_sign_201 (by decide) ?_
                              exact (show mt_one c = 1 from (by unfold mt_one; rw [if_neg q1]; rw [if_neg q2]; rw [if_neg q3]; rw [if_neg q4]; rw [if_neg q5]; rw [if_neg q6]; rw [if_neg q7]; rw [if_neg q8]; rw [if_neg q9]; rw [if_neg q10]; rw [if_neg q11]; rw [if_neg q12]; rw [if_neg q13]; rw [if_pos q14]; try rfl)) ▸ sgC hl0 hc hc2
                            · refine ab_iload_n d_MText_sign_188 rfl rfl ?_
                              refine ab_bipush (v := 62) d_MText_sign_189 (by decide) ?_
                              refine ab_icmp_eq (tgt := 200) d_MText_sign_191 (by decide) (fun q15 => ?_) (fun q15 => ?_)
                              · refine ab_iconst (v := 1) d_MText_sign_200 (by decide) ?_
                                refine ab_goto (tgt := 205) d_MText_sign_201 (by decide) ?_
                                exact (show mt_one c = 1 from (by unfold mt_one; rw [if_neg q1]; rw [if_neg q2]; rw [if_neg q3]; rw [if_neg q4]; rw [if_neg q5]; rw [if_neg q6]; rw [if_neg q7]; rw [if_neg q8]; rw [if_neg q9]; rw [if_neg q10]; rw [if_neg q11]; rw [if_neg q12]; rw [if_neg q13]; rw [if_neg q14]; rw [if_pos q15]; try rfl)) ▸ sgC hl0 hc hc2
                              · refine ab_iload_n d_MText_sign_194 rfl rfl ?_
                                refine ab_bipush (v := 33) d_MText_sign_195 (by decide) ?_
                                refine ab_icmp_ne (tgt := 204) d_MText_sign_197 (by decide) (fun q16 => ?_) (fun q16 => ?_)
                                · refine ab_iconst (v := 0) d_MText_sign_204 (by decide) ?_
                                  exact (show mt_one c = 0 from (by unfold mt_one; rw [if_neg q1]; rw [if_neg q2]; rw [if_neg q3]; rw [if_neg q4]; rw [if_neg q5]; rw [if_neg q6]; rw [if_neg q7]; rw [if_neg q8]; rw [if_neg q9]; rw [if_neg q10]; rw [if_neg q11]; rw [if_neg q12]; rw [if_neg q13]; rw [if_neg q14]; rw [if_neg q15]; rw [if_pos q16]; try rfl)) ▸ sgC hl0 hc hc2
                                · refine ab_iconst (v := 1) d_MText_sign_200 (by decide) ?_
                                  refine ab_goto (tgt := 205) d_MText_sign_201 (by decide) ?_
                                  exact (show mt_one c = 1 from (by unfold mt_one; rw [if_neg q1]; rw [if_neg q2]; rw [if_neg q3]; rw [if_neg q4]; rw [if_neg q5]; rw [if_neg q6]; rw [if_neg q7]; rw [if_neg q8]; rw [if_neg q9]; rw [if_neg q10]; rw [if_neg q11]; rw [if_neg q12]; rw [if_neg q13]; rw [if_neg q14]; rw [if_neg q15]; rw [if_neg (fun z => z q16)]; try rfl)) ▸ sgC hl0 hc hc2
def mt_two (c d : Int32) : Int32 := if ¬ c = (60 : Int32) then if ¬ c = (62 : Int32) then if ¬ c = (61 : Int32) then if ¬ c = (33 : Int32) then if ¬ c = (38 : Int32) then if ¬ c = (124 : Int32) then (0) else if ¬ d = (124 : Int32) then (0) else (10) else if ¬ d = (38 : Int32) then if ¬ c = (124 : Int32) then (0) else if ¬ d = (124 : Int32) then (0) else (10) else (9) else if ¬ d = (61 : Int32) then if ¬ c = (38 : Int32) then if ¬ c = (124 : Int32) then (0) else if ¬ d = (124 : Int32) then (0) else (10) else if ¬ d = (38 : Int32) then if ¬ c = (124 : Int32) then (0) else if ¬ d = (124 : Int32) then (0) else (10) else (9) else (8) else if ¬ d = (61 : Int32) then if ¬ c = (33 : Int32) then if ¬ c = (38 : Int32) then if ¬ c = (124 : Int32) then (0) else if ¬ d = (124 : Int32) then (0) else (10) else if ¬ d = (38 : Int32) then if ¬ c = (124 : Int32) then (0) else if ¬ d = (124 : Int32) then (0) else (10) else (9) else if ¬ c = (38 : Int32) then if ¬ c = (124 : Int32) then (0) else if ¬ d = (124 : Int32) then (0) else (10) else if ¬ d = (38 : Int32) then if ¬ c = (124 : Int32) then (0) else if ¬ d = (124 : Int32) then (0) else (10) else (9) else (7) else if ¬ d = (61 : Int32) then if ¬ c = (61 : Int32) then if ¬ c = (33 : Int32) then if ¬ c = (38 : Int32) then if ¬ c = (124 : Int32) then (0) else if ¬ d = (124 : Int32) then (0) else (10) else if ¬ d = (38 : Int32) then if ¬ c = (124 : Int32) then (0) else if ¬ d = (124 : Int32) then (0) else (10) else (9) else if ¬ c = (38 : Int32) then if ¬ c = (124 : Int32) then (0) else if ¬ d = (124 : Int32) then (0) else (10) else if ¬ d = (38 : Int32) then if ¬ c = (124 : Int32) then (0) else if ¬ d = (124 : Int32) then (0) else (10) else (9) else if ¬ c = (33 : Int32) then if ¬ c = (38 : Int32) then if ¬ c = (124 : Int32) then (0) else if ¬ d = (124 : Int32) then (0) else (10) else if ¬ d = (38 : Int32) then if ¬ c = (124 : Int32) then (0) else if ¬ d = (124 : Int32) then (0) else (10) else (9) else if ¬ c = (38 : Int32) then if ¬ c = (124 : Int32) then (0) else if ¬ d = (124 : Int32) then (0) else (10) else if ¬ d = (38 : Int32) then if ¬ c = (124 : Int32) then (0) else if ¬ d = (124 : Int32) then (0) else (10) else (9) else (6) else if ¬ d = (61 : Int32) then if ¬ c = (62 : Int32) then if ¬ c = (61 : Int32) then if ¬ c = (33 : Int32) then if ¬ c = (38 : Int32) then if ¬ c = (124 : Int32) then (0) else if ¬ d = (124 : Int32) then (0) else (10) else if ¬ d = (38 : Int32) then if ¬ c = (124 : Int32) then (0) else if ¬ d = (124 : Int32) then (0) else (10) else (9) else if ¬ c = (38 : Int32) then if ¬ c = (124 : Int32) then (0) else if ¬ d = (124 : Int32) then (0) else (10) else if ¬ d = (38 : Int32) then if ¬ c = (124 : Int32) then (0) else if ¬ d = (124 : Int32) then (0) else (10) else (9) else if ¬ c = (33 : Int32) then if ¬ c = (38 : Int32) then if ¬ c = (124 : Int32) then (0) else if ¬ d = (124 : Int32) then (0) else (10) else if ¬ d = (38 : Int32) then if ¬ c = (124 : Int32) then (0) else if ¬ d = (124 : Int32) then (0) else (10) else (9) else if ¬ c = (38 : Int32) then if ¬ c = (124 : Int32) then (0) else if ¬ d = (124 : Int32) then (0) else (10) else if ¬ d = (38 : Int32) then if ¬ c = (124 : Int32) then (0) else if ¬ d = (124 : Int32) then (0) else (10) else (9) else if ¬ c = (61 : Int32) then if ¬ c = (33 : Int32) then if ¬ c = (38 : Int32) then if ¬ c = (124 : Int32) then (0) else if ¬ d = (124 : Int32) then (0) else (10) else if ¬ d = (38 : Int32) then if ¬ c = (124 : Int32) then (0) else if ¬ d = (124 : Int32) then (0) else (10) else (9) else if ¬ c = (38 : Int32) then if ¬ c = (124 : Int32) then (0) else if ¬ d = (124 : Int32) then (0) else (10) else if ¬ d = (38 : Int32) then if ¬ c = (124 : Int32) then (0) else if ¬ d = (124 : Int32) then (0) else (10) else (9) else if ¬ c = (33 : Int32) then if ¬ c = (38 : Int32) then if ¬ c = (124 : Int32) then (0) else if ¬ d = (124 : Int32) then (0) else (10) else if ¬ d = (38 : Int32) then if ¬ c = (124 : Int32) then (0) else if ¬ d = (124 : Int32) then (0) else (10) else (9) else if ¬ c = (38 : Int32) then if ¬ c = (124 : Int32) then (0) else if ¬ d = (124 : Int32) then (0) else (10) else if ¬ d = (38 : Int32) then if ¬ c = (124 : Int32) then (0) else if ¬ d = (124 : Int32) then (0) else (10) else (9) else (5)
set_option maxRecDepth 20000 in
set_option maxHeartbeats 2000000 in
theorem c_MText_sign {h : List ab_E} {t : Nat} {s : Nat → Int32} {a : Nat → Nat → Int32} {p n : Nat} {c d : Int32} (hl : at_MText h t s a) (hc : s 2 = nI n) (hc2 : n < 6002) : ab_M y_MText_sign { frames := 1, cells := 0, slots := 0, locals := 40 } [.ref t, .int (nI p), .int c, .int d] h ((ab_A (some (.int (nI (p + sgn_len (mt_two c d))))) (fun h1 => at_MText h1 t (sp_MText_token s a (sgn_ty (mt_two c d) (mt_one c) c) (nI p) (nI (p + sgn_len (mt_two c d)))).1 (sp_MText_token s a (sgn_ty (mt_two c d) (mt_one c) c) (nI p) (nI (p + sgn_len (mt_two c d)))).2 ∧ ab_fr (in_MText t) h h1))) := by
  have hl0 := hl; obtain ⟨go, g0, g3, g4, g5, g6, g7, g8, g13, g14, g15, g17, g18, g19, g20, g22, g23, g24, g25, g27, g28, g30, g31, g32, g33, g34, g35, g36, g38, g39, g40⟩ := hl
  refine ab_of2 (lv := [some (.ref t), some (.int (nI p)), some (.int c), some (.int d), none, none]) 2 rfl rfl (Nat.le_of_ble_eq_true rfl) ?_
  refine ab_iload_n d_MText_sign_0 rfl rfl ?_
  refine ab_bipush (v := 60) d_MText_sign_1 (by decide) ?_
  refine ab_icmp_ne (tgt := 16) d_MText_sign_3 (by decide) (fun q1 => ?_) (fun q1 => ?_)
  · refine ab_iload_n d_MText_sign_16 rfl rfl ?_
    refine ab_bipush (v := 62) d_MText_sign_17 (by decide) ?_
    refine ab_icmp_ne (tgt := 33) d_MText_sign_19 (by decide) (fun q2 => ?_) (fun q2 => ?_)
    · refine ab_iload_n d_MText_sign_33 rfl rfl ?_
      refine ab_bipush (v := 61) d_MText_sign_34 (by decide) ?_
      refine ab_icmp_ne (tgt := 50) d_MText_sign_36 (by decide) (fun q3 => ?_) (fun q3 => ?_)
      · refine ab_iload_n d_MText_sign_50 rfl rfl ?_
        refine ab_bipush (v := 33) d_MText_sign_51 (by decide) ?_
        refine ab_icmp_ne (tgt := 67) d_MText_sign_53 (by decide) (fun q4 => ?_) (fun q4 => ?_)
        · refine ab_iload_n d_MText_sign_67 rfl rfl ?_
          refine ab_bipush (v := 38) d_MText_sign_68 (by decide) ?_
          refine ab_icmp_ne (tgt := 84) d_MText_sign_70 (by decide) (fun q5 => ?_) (fun q5 => ?_)
          · refine ab_iload_n d_MText_sign_84 rfl rfl ?_
            refine ab_bipush (v := 124) d_MText_sign_85 (by decide) ?_
            refine ab_icmp_ne (tgt := 101) d_MText_sign_87 (by decide) (fun q6 => ?_) (fun q6 => ?_)
            · refine ab_iconst (v := 0) d_MText_sign_101 (by decide) ?_
              exact (show mt_two c d = 0 from (by unfold mt_two; rw [if_pos q1]; rw [if_pos q2]; rw [if_pos q3]; rw [if_pos q4]; rw [if_pos q5]; rw [if_pos q6]; try rfl)) ▸ sgB hl0 hc hc2
            · refine ab_iload_n d_MText_sign_90 rfl rfl ?_
              refine ab_bipush (v := 124) d_MText_sign_91 (by decide) ?_
              refine ab_icmp_ne (tgt := 101) d_MText_sign_93 (by decide) (fun q7 => ?_) (fun q7 => ?_)
              · refine ab_iconst (v := 0) d_MText_sign_101 (by decide) ?_
                exact (show mt_two c d = 0 from (by unfold mt_two; rw [if_pos q1]; rw [if_pos q2]; rw [if_pos q3]; rw [if_pos q4]; rw [if_pos q5]; rw [if_neg (fun z => z q6)]; rw [if_pos q7]; try rfl)) ▸ sgB hl0 hc hc2
              · refine ab_bipush (v := 10) d_MText_sign_96 (by decide) ?_
                refine ab_goto (tgt := 102) d_MText_sign_98 (by decide) ?_
                exact (show mt_two c d = 10 from (by unfold mt_two; rw [if_pos q1]; rw [if_pos q2]; rw [if_pos q3]; rw [if_pos q4]; rw [if_pos q5]; rw [if_neg (fun z => z q6)]; rw [if_neg (fun z => z q7)]; try rfl)) ▸ sgB hl0 hc hc2
          · refine ab_iload_n d_MText_sign_73 rfl rfl ?_
            refine ab_bipush (v := 38) d_MText_sign_74 (by decide) ?_
            refine ab_icmp_ne (tgt := 84) d_MText_sign_76 (by decide) (fun q8 => ?_) (fun q8 => ?_)
            · refine ab_iload_n d_MText_sign_84 rfl rfl ?_
              refine ab_bipush (v := 124) d_MText_sign_85 (by decide) ?_
              refine ab_icmp_ne (tgt := 101) d_MText_sign_87 (by decide) (fun q9 => ?_) (fun q9 => ?_)
              · refine ab_iconst (v := 0) d_MText_sign_101 (by decide) ?_
                exact (show mt_two c d = 0 from (by unfold mt_two; rw [if_pos q1]; rw [if_pos q2]; rw [if_pos q3]; rw [if_pos q4]; rw [if_neg (fun z => z q5)]; rw [if_pos q8]; rw [if_pos q9]; try rfl)) ▸ sgB hl0 hc hc2
              · refine ab_iload_n d_MText_sign_90 rfl rfl ?_
                refine ab_bipush (v := 124) d_MText_sign_91 (by decide) ?_
                refine ab_icmp_ne (tgt := 101) d_MText_sign_93 (by decide) (fun q10 => ?_) (fun q10 => ?_)
                · refine ab_iconst (v := 0) d_MText_sign_101 (by decide) ?_
                  exact (show mt_two c d = 0 from (by unfold mt_two; rw [if_pos q1]; rw [if_pos q2]; rw [if_pos q3]; rw [if_pos q4]; rw [if_neg (fun z => z q5)]; rw [if_pos q8]; rw [if_neg (fun z => z q9)]; rw [if_pos q10]; try rfl)) ▸ sgB hl0 hc hc2
                · refine ab_bipush (v := 10) d_MText_sign_96 (by decide) ?_
                  refine ab_goto (tgt := 102) d_MText_sign_98 (by decide) ?_
                  exact (show mt_two c d = 10 from (by unfold mt_two; rw [if_pos q1]; rw [if_pos q2]; rw [if_pos q3]; rw [if_pos q4]; rw [if_neg (fun z => z q5)]; rw [if_pos q8]; rw [if_neg (fun z => z q9)]; rw [if_neg (fun z => z q10)]; try rfl)) ▸ sgB hl0 hc hc2
            · refine ab_bipush (v := 9) d_MText_sign_79 (by decide) ?_
              refine ab_goto (tgt := 102) d_MText_sign_81 (by decide) ?_
              exact (show mt_two c d = 9 from (by unfold mt_two; rw [if_pos q1]; rw [if_pos q2]; rw [if_pos q3]; rw [if_pos q4]; rw [if_neg (fun z => z q5)]; rw [if_neg (fun z => z q8)]; try rfl)) ▸ sgB hl0 hc hc2
        · refine ab_iload_n d_MText_sign_56 rfl rfl ?_
          refine ab_bipush (v := 61) d_MText_sign_57 (by decide) ?_
          refine ab_icmp_ne (tgt := 67) d_MText_sign_59 (by decide) (fun q11 => ?_) (fun q11 => ?_)
          · refine ab_iload_n d_MText_sign_67 rfl rfl ?_
            refine ab_bipush (v := 38) d_MText_sign_68 (by decide) ?_
            refine ab_icmp_ne (tgt := 84) d_MText_sign_70 (by decide) (fun q12 => ?_) (fun q12 => ?_)
            · refine ab_iload_n d_MText_sign_84 rfl rfl ?_
              refine ab_bipush (v := 124) d_MText_sign_85 (by decide) ?_
              refine ab_icmp_ne (tgt := 101) d_MText_sign_87 (by decide) (fun q13 => ?_) (fun q13 => ?_)
              · refine ab_iconst (v := 0) d_MText_sign_101 (by decide) ?_
                exact (show mt_two c d = 0 from (by unfold mt_two; rw [if_pos q1]; rw [if_pos q2]; rw [if_pos q3]; rw [if_neg (fun z => z q4)]; rw [if_pos q11]; rw [if_pos q12]; rw [if_pos q13]; try rfl)) ▸ sgB hl0 hc hc2
              · refine ab_iload_n d_MText_sign_90 rfl rfl ?_
                refine ab_bipush (v := 124) d_MText_sign_91 (by decide) ?_
                refine ab_icmp_ne (tgt := 101) d_MText_sign_93 (by decide) (fun q14 => ?_) (fun q14 => ?_)
                · refine ab_iconst (v := 0) d_MText_sign_101 (by decide) ?_
                  exact (show mt_two c d = 0 from (by unfold mt_two; rw [if_pos q1]; rw [if_pos q2]; rw [if_pos q3]; rw [if_neg (fun z => z q4)]; rw [if_pos q11]; rw [if_pos q12]; rw [if_neg (fun z => z q13)]; rw [if_pos q14]; try rfl)) ▸ sgB hl0 hc hc2
                · refine ab_bipush (v := 10) d_MText_sign_96 (by decide) ?_
                  refine ab_goto (tgt := 102) d_MText_sign_98 (by decide) ?_
                  exact (show mt_two c d = 10 from (by unfold mt_two; rw [if_pos q1]; rw [if_pos q2]; rw [if_pos q3]; rw [if_neg (fun z => z q4)]; rw [if_pos q11]; rw [if_pos q12]; rw [if_neg (fun z => z q13)]; rw [if_neg (fun z => z q14)]; try rfl)) ▸ sgB hl0 hc hc2
            · refine ab_iload_n d_MText_sign_73 rfl rfl ?_
              refine ab_bipush (v := 38) d_MText_sign_74 (by decide) ?_
              refine ab_icmp_ne (tgt := 84) d_MText_sign_76 (by decide) (fun q15 => ?_) (fun q15 => ?_)
              · refine ab_iload_n d_MText_sign_84 rfl rfl ?_
                refine ab_bipush (v := 124) d_MText_sign_85 (by decide) ?_
                refine ab_icmp_ne (tgt := 101) d_MText_sign_87 (by decide) (fun q16 => ?_) (fun q16 => ?_)
                · refine ab_iconst (v := 0) d_MText_sign_101 (by decide) ?_
                  exact (show mt_two c d = 0 from (by unfold mt_two; rw [if_pos q1]; rw [if_pos q2]; rw [if_pos q3]; rw [if_neg (fun z => z q4)]; rw [if_pos q11]; rw [if_neg (fun z => z q12)]; rw [if_pos q15]; rw [if_pos q16]; try rfl)) ▸ sgB hl0 hc hc2
                · refine ab_iload_n d_MText_sign_90 rfl rfl ?_
                  refine ab_bipush (v := 124) d_MText_sign_91 (by decide) ?_
                  refine ab_icmp_ne (tgt := 101) d_MText_sign_93 (by decide) (fun q17 => ?_) (fun q17 => ?_)
                  · refine ab_iconst (v := 0) d_MText_sign_101 (by decide) ?_
                    exact (show mt_two c d = 0 from (by unfold mt_two; rw [if_pos q1]; rw [if_pos q2]; rw [if_pos q3]; rw [if_neg (fun z => z q4)]; rw [if_pos q11]; rw [if_neg (fun z => z q12)]; rw [if_pos q15]; rw [if_neg (fun z => z q16)]; rw [if_pos q17]; try rfl)) ▸ sgB hl0 hc hc2
                  · refine ab_bipush (v := 10) d_MText_sign_96 (by decide) ?_
                    refine ab_goto (tgt := 102) d_MText_sign_98 (by decide) ?_
                    exact (show mt_two c d = 10 from (by unfold mt_two; rw [if_pos q1]; rw [if_pos q2]; rw [if_pos q3]; rw [if_neg (fun z => z q4)]; rw [if_pos q11]; rw [if_neg (fun z => z q12)]; rw [if_pos q15]; rw [if_neg (fun z => z q16)]; rw [if_neg (fun z => z q17)]; try rfl)) ▸ sgB hl0 hc hc2
              · refine ab_bipush (v := 9) d_MText_sign_79 (by decide) ?_
                refine ab_goto (tgt := 102) d_MText_sign_81 (by decide) ?_
                exact (show mt_two c d = 9 from (by unfold mt_two; rw [if_pos q1]; rw [if_pos q2]; rw [if_pos q3]; rw [if_neg (fun z => z q4)]; rw [if_pos q11]; rw [if_neg (fun z => z q12)]; rw [if_neg (fun z => z q15)]; try rfl)) ▸ sgB hl0 hc hc2
          · refine ab_bipush (v := 8) d_MText_sign_62 (by decide) ?_
            refine ab_goto (tgt := 102) d_MText_sign_64 (by decide) ?_
            exact (show mt_two c d = 8 from (by unfold mt_two; rw [if_pos q1]; rw [if_pos q2]; rw [if_pos q3]; rw [if_neg (fun z => z q4)]; rw [if_neg (fun z => z q11)]; try rfl)) ▸ sgB hl0 hc hc2
      · refine ab_iload_n d_MText_sign_39 rfl rfl ?_
        refine ab_bipush (v := 61) d_MText_sign_40 (by decide) ?_
        refine ab_icmp_ne (tgt := 50) d_MText_sign_42 (by decide) (fun q18 => ?_) (fun q18 => ?_)
        · refine ab_iload_n d_MText_sign_50 rfl rfl ?_
          refine ab_bipush (v := 33) d_MText_sign_51 (by decide) ?_
          refine ab_icmp_ne (tgt := 67) d_MText_sign_53 (by decide) (fun q19 => ?_) (fun q19 => ?_)
          · refine ab_iload_n d_MText_sign_67 rfl rfl ?_
            refine ab_bipush (v := 38) d_MText_sign_68 (by decide) ?_
            refine ab_icmp_ne (tgt := 84) d_MText_sign_70 (by decide) (fun q20 => ?_) (fun q20 => ?_)
            · refine ab_iload_n d_MText_sign_84 rfl rfl ?_
              refine ab_bipush (v := 124) d_MText_sign_85 (by decide) ?_
              refine ab_icmp_ne (tgt := 101) d_MText_sign_87 (by decide) (fun q21 => ?_) (fun q21 => ?_)
              · refine ab_iconst (v := 0) d_MText_sign_101 (by decide) ?_
                exact (show mt_two c d = 0 from (by unfold mt_two; rw [if_pos q1]; rw [if_pos q2]; rw [if_neg (fun z => z q3)]; rw [if_pos q18]; rw [if_pos q19]; rw [if_pos q20]; rw [if_pos q21]; try rfl)) ▸ sgB hl0 hc hc2
              · refine ab_iload_n d_MText_sign_90 rfl rfl ?_
                refine ab_bipush (v := 124) d_MText_sign_91 (by decide) ?_
                refine ab_icmp_ne (tgt := 101) d_MText_sign_93 (by decide) (fun q22 => ?_) (fun q22 => ?_)
                · refine ab_iconst (v := 0) d_MText_sign_101 (by decide) ?_
                  exact (show mt_two c d = 0 from (by unfold mt_two; rw [if_pos q1]; rw [if_pos q2]; rw [if_neg (fun z => z q3)]; rw [if_pos q18]; rw [if_pos q19]; rw [if_pos q20]; rw [if_neg (fun z => z q21)]; rw [if_pos q22]; try rfl)) ▸ sgB hl0 hc hc2
                · refine ab_bipush (v := 10) d_MText_sign_96 (by decide) ?_
                  refine ab_goto (tgt := 102) d_MText_sign_98 (by decide) ?_
                  exact (show mt_two c d = 10 from (by unfold mt_two; rw [if_pos q1]; rw [if_pos q2]; rw [if_neg (fun z => z q3)]; rw [if_pos q18]; rw [if_pos q19]; rw [if_pos q20]; rw [if_neg (fun z => z q21)]; rw [if_neg (fun z => z q22)]; try rfl)) ▸ sgB hl0 hc hc2
            · refine ab_iload_n d_MText_sign_73 rfl rfl ?_
              refine ab_bipush (v := 38) d_MText_sign_74 (by decide) ?_
              refine ab_icmp_ne (tgt := 84) d_MText_sign_76 (by decide) (fun q23 => ?_) (fun q23 => ?_)
              · refine ab_iload_n d_MText_sign_84 rfl rfl ?_
                refine ab_bipush (v := 124) d_MText_sign_85 (by decide) ?_
                refine ab_icmp_ne (tgt := 101) d_MText_sign_87 (by decide) (fun q24 => ?_) (fun q24 => ?_)
                · refine ab_iconst (v := 0) d_MText_sign_101 (by decide) ?_
                  exact (show mt_two c d = 0 from (by unfold mt_two; rw [if_pos q1]; rw [if_pos q2]; rw [if_neg (fun z => z q3)]; rw [if_pos q18]; rw [if_pos q19]; rw [if_neg (fun z => z q20)]; rw [if_pos q23]; rw [if_pos q24]; try rfl)) ▸ sgB hl0 hc hc2
                · refine ab_iload_n d_MText_sign_90 rfl rfl ?_
                  refine ab_bipush (v := 124) d_MText_sign_91 (by decide) ?_
                  refine ab_icmp_ne (tgt := 101) d_MText_sign_93 (by decide) (fun q25 => ?_) (fun q25 => ?_)
                  · refine ab_iconst (v := 0) d_MText_sign_101 (by decide) ?_
                    exact (show mt_two c d = 0 from (by unfold mt_two; rw [if_pos q1]; rw [if_pos q2]; rw [if_neg (fun z => z q3)]; rw [if_pos q18]; rw [if_pos q19]; rw [if_neg (fun z => z q20)]; rw [if_pos q23]; rw [if_neg (fun z => z q24)]; rw [if_pos q25]; try rfl)) ▸ sgB hl0 hc hc2
                  · refine ab_bipush (v := 10) d_MText_sign_96 (by decide) ?_
                    refine ab_goto (tgt := 102) d_MText_sign_98 (by decide) ?_
                    exact (show mt_two c d = 10 from (by unfold mt_two; rw [if_pos q1]; rw [if_pos q2]; rw [if_neg (fun z => z q3)]; rw [if_pos q18]; rw [if_pos q19]; rw [if_neg (fun z => z q20)]; rw [if_pos q23]; rw [if_neg (fun z => z q24)]; rw [if_neg (fun z => z q25)]; try rfl)) ▸ sgB hl0 hc hc2
              · refine ab_bipush (v := 9) d_MText_sign_79 (by decide) ?_
                refine ab_goto (tgt := 102) d_MText_sign_81 (by decide) ?_
                exact (show mt_two c d = 9 from (by unfold mt_two; rw [if_pos q1]; rw [if_pos q2]; rw [if_neg (fun z => z q3)]; rw [if_pos q18]; rw [if_pos q19]; rw [if_neg (fun z => z q20)]; rw [if_neg (fun z => z q23)]; try rfl)) ▸ sgB hl0 hc hc2
          · refine ab_iload_n d_MText_sign_56 rfl rfl ?_
            refine ab_bipush (v := 61) d_MText_sign_57 (by decide) ?_
            refine ab_icmp_ne (tgt := 67) d_MText_sign_59 (by decide) (fun q26 => ?_) (fun q26 => by exact absurd q26 (by assumption))
            refine ab_iload_n d_MText_sign_67 rfl rfl ?_
            refine ab_bipush (v := 38) d_MText_sign_68 (by decide) ?_
            refine ab_icmp_ne (tgt := 84) d_MText_sign_70 (by decide) (fun q27 => ?_) (fun q27 => ?_)
            · refine ab_iload_n d_MText_sign_84 rfl rfl ?_
              refine ab_bipush (v := 124) d_MText_sign_85 (by decide) ?_
              refine ab_icmp_ne (tgt := 101) d_MText_sign_87 (by decide) (fun q28 => ?_) (fun q28 => ?_)
              · refine ab_iconst (v := 0) d_MText_sign_101 (by decide) ?_
                exact (show mt_two c d = 0 from (by unfold mt_two; rw [if_pos q1]; rw [if_pos q2]; rw [if_neg (fun z => z q3)]; rw [if_pos q18]; rw [if_neg (fun z => z q19)]; rw [if_pos q27]; rw [if_pos q28]; try rfl)) ▸ sgB hl0 hc hc2
              · refine ab_iload_n d_MText_sign_90 rfl rfl ?_
                refine ab_bipush (v := 124) d_MText_sign_91 (by decide) ?_
                refine ab_icmp_ne (tgt := 101) d_MText_sign_93 (by decide) (fun q29 => ?_) (fun q29 => ?_)
                · refine ab_iconst (v := 0) d_MText_sign_101 (by decide) ?_
                  exact (show mt_two c d = 0 from (by unfold mt_two; rw [if_pos q1]; rw [if_pos q2]; rw [if_neg (fun z => z q3)]; rw [if_pos q18]; rw [if_neg (fun z => z q19)]; rw [if_pos q27]; rw [if_neg (fun z => z q28)]; rw [if_pos q29]; try rfl)) ▸ sgB hl0 hc hc2
                · refine ab_bipush (v := 10) d_MText_sign_96 (by decide) ?_
                  refine ab_goto (tgt := 102) d_MText_sign_98 (by decide) ?_
                  exact (show mt_two c d = 10 from (by unfold mt_two; rw [if_pos q1]; rw [if_pos q2]; rw [if_neg (fun z => z q3)]; rw [if_pos q18]; rw [if_neg (fun z => z q19)]; rw [if_pos q27]; rw [if_neg (fun z => z q28)]; rw [if_neg (fun z => z q29)]; try rfl)) ▸ sgB hl0 hc hc2
            · refine ab_iload_n d_MText_sign_73 rfl rfl ?_
              refine ab_bipush (v := 38) d_MText_sign_74 (by decide) ?_
              refine ab_icmp_ne (tgt := 84) d_MText_sign_76 (by decide) (fun q30 => ?_) (fun q30 => ?_)
              · refine ab_iload_n d_MText_sign_84 rfl rfl ?_
                refine ab_bipush (v := 124) d_MText_sign_85 (by decide) ?_
                refine ab_icmp_ne (tgt := 101) d_MText_sign_87 (by decide) (fun q31 => ?_) (fun q31 => ?_)
                · refine ab_iconst (v := 0) d_MText_sign_101 (by decide) ?_
                  exact (show mt_two c d = 0 from (by unfold mt_two; rw [if_pos q1]; rw [if_pos q2]; rw [if_neg (fun z => z q3)]; rw [if_pos q18]; rw [if_neg (fun z => z q19)]; rw [if_neg (fun z => z q27)]; rw [if_pos q30]; rw [if_pos q31]; try rfl)) ▸ sgB hl0 hc hc2
                · refine ab_iload_n d_MText_sign_90 rfl rfl ?_
                  refine ab_bipush (v := 124) d_MText_sign_91 (by decide) ?_
                  refine ab_icmp_ne (tgt := 101) d_MText_sign_93 (by decide) (fun q32 => ?_) (fun q32 => ?_)
                  · refine ab_iconst (v := 0) d_MText_sign_101 (by decide) ?_
                    exact (show mt_two c d = 0 from (by unfold mt_two; rw [if_pos q1]; rw [if_pos q2]; rw [if_neg (fun z => z q3)]; rw [if_pos q18]; rw [if_neg (fun z => z q19)]; rw [if_neg (fun z => z q27)]; rw [if_pos q30]; rw [if_neg (fun z => z q31)]; rw [if_pos q32]; try rfl)) ▸ sgB hl0 hc hc2
                  · refine ab_bipush (v := 10) d_MText_sign_96 (by decide) ?_
                    refine ab_goto (tgt := 102) d_MText_sign_98 (by decide) ?_
                    exact (show mt_two c d = 10 from (by unfold mt_two; rw [if_pos q1]; rw [if_pos q2]; rw [if_neg (fun z => z q3)]; rw [if_pos q18]; rw [if_neg (fun z => z q19)]; rw [if_neg (fun z => z q27)]; rw [if_pos q30]; rw [if_neg (fun z => z q31)]; rw [if_neg (fun z => z q32)]; try rfl)) ▸ sgB hl0 hc hc2
              · refine ab_bipush (v := 9) d_MText_sign_79 (by decide) ?_
                refine ab_goto (tgt := 102) d_MText_sign_81 (by decide) ?_
                exact (show mt_two c d = 9 from (by unfold mt_two; rw [if_pos q1]; rw [if_pos q2]; rw [if_neg (fun z => z q3)]; rw [if_pos q18]; rw [if_neg (fun z => z q19)]; rw [if_neg (fun z => z q27)]; rw [if_neg (fun z => z q30)]; try rfl)) ▸ sgB hl0 hc hc2
        · refine ab_bipush (v := 7) d_MText_sign_45 (by decide) ?_
          refine ab_goto (tgt := 102) d_MText_sign_47 (by decide) ?_
          exact (show mt_two c d = 7 from (by unfold mt_two; rw [if_pos q1]; rw [if_pos q2]; rw [if_neg (fun z => z q3)]; rw [if_neg (fun z => z q18)]; try rfl)) ▸ sgB hl0 hc hc2
    · refine ab_iload_n d_MText_sign_22 rfl rfl ?_
      refine ab_bipush (v := 61) d_MText_sign_23 (by decide) ?_
      refine ab_icmp_ne (tgt := 33) d_MText_sign_25 (by decide) (fun q33 => ?_) (fun q33 => ?_)
      · refine ab_iload_n d_MText_sign_33 rfl rfl ?_
        refine ab_bipush (v := 61) d_MText_sign_34 (by decide) ?_
        refine ab_icmp_ne (tgt := 50) d_MText_sign_36 (by decide) (fun q34 => ?_) (fun q34 => ?_)
        · refine ab_iload_n d_MText_sign_50 rfl rfl ?_
          refine ab_bipush (v := 33) d_MText_sign_51 (by decide) ?_
          refine ab_icmp_ne (tgt := 67) d_MText_sign_53 (by decide) (fun q35 => ?_) (fun q35 => ?_)
          · refine ab_iload_n d_MText_sign_67 rfl rfl ?_
            refine ab_bipush (v := 38) d_MText_sign_68 (by decide) ?_
            refine ab_icmp_ne (tgt := 84) d_MText_sign_70 (by decide) (fun q36 => ?_) (fun q36 => ?_)
            · refine ab_iload_n d_MText_sign_84 rfl rfl ?_
              refine ab_bipush (v := 124) d_MText_sign_85 (by decide) ?_
              refine ab_icmp_ne (tgt := 101) d_MText_sign_87 (by decide) (fun q37 => ?_) (fun q37 => ?_)
              · refine ab_iconst (v := 0) d_MText_sign_101 (by decide) ?_
                exact (show mt_two c d = 0 from (by unfold mt_two; rw [if_pos q1]; rw [if_neg (fun z => z q2)]; rw [if_pos q33]; rw [if_pos q34]; rw [if_pos q35]; rw [if_pos q36]; rw [if_pos q37]; try rfl)) ▸ sgB hl0 hc hc2
              · refine ab_iload_n d_MText_sign_90 rfl rfl ?_
                refine ab_bipush (v := 124) d_MText_sign_91 (by decide) ?_
                refine ab_icmp_ne (tgt := 101) d_MText_sign_93 (by decide) (fun q38 => ?_) (fun q38 => ?_)
                · refine ab_iconst (v := 0) d_MText_sign_101 (by decide) ?_
                  exact (show mt_two c d = 0 from (by unfold mt_two; rw [if_pos q1]; rw [if_neg (fun z => z q2)]; rw [if_pos q33]; rw [if_pos q34]; rw [if_pos q35]; rw [if_pos q36]; rw [if_neg (fun z => z q37)]; rw [if_pos q38]; try rfl)) ▸ sgB hl0 hc hc2
                · refine ab_bipush (v := 10) d_MText_sign_96 (by decide) ?_
                  refine ab_goto (tgt := 102) d_MText_sign_98 (by decide) ?_
                  exact (show mt_two c d = 10 from (by unfold mt_two; rw [if_pos q1]; rw [if_neg (fun z => z q2)]; rw [if_pos q33]; rw [if_pos q34]; rw [if_pos q35]; rw [if_pos q36]; rw [if_neg (fun z => z q37)]; rw [if_neg (fun z => z q38)]; try rfl)) ▸ sgB hl0 hc hc2
            · refine ab_iload_n d_MText_sign_73 rfl rfl ?_
              refine ab_bipush (v := 38) d_MText_sign_74 (by decide) ?_
              refine ab_icmp_ne (tgt := 84) d_MText_sign_76 (by decide) (fun q39 => ?_) (fun q39 => ?_)
              · refine ab_iload_n d_MText_sign_84 rfl rfl ?_
                refine ab_bipush (v := 124) d_MText_sign_85 (by decide) ?_
                refine ab_icmp_ne (tgt := 101) d_MText_sign_87 (by decide) (fun q40 => ?_) (fun q40 => ?_)
                · refine ab_iconst (v := 0) d_MText_sign_101 (by decide) ?_
                  exact (show mt_two c d = 0 from (by unfold mt_two; rw [if_pos q1]; rw [if_neg (fun z => z q2)]; rw [if_pos q33]; rw [if_pos q34]; rw [if_pos q35]; rw [if_neg (fun z => z q36)]; rw [if_pos q39]; rw [if_pos q40]; try rfl)) ▸ sgB hl0 hc hc2
                · refine ab_iload_n d_MText_sign_90 rfl rfl ?_
                  refine ab_bipush (v := 124) d_MText_sign_91 (by decide) ?_
                  refine ab_icmp_ne (tgt := 101) d_MText_sign_93 (by decide) (fun q41 => ?_) (fun q41 => ?_)
                  · refine ab_iconst (v := 0) d_MText_sign_101 (by decide) ?_
                    exact (show mt_two c d = 0 from (by unfold mt_two; rw [if_pos q1]; rw [if_neg (fun z => z q2)]; rw [if_pos q33]; rw [if_pos q34]; rw [if_pos q35]; rw [if_neg (fun z => z q36)]; rw [if_pos q39]; rw [if_neg (fun z => z q40)]; rw [if_pos q41]; try rfl)) ▸ sgB hl0 hc hc2
                  · refine ab_bipush (v := 10) d_MText_sign_96 (by decide) ?_
                    refine ab_goto (tgt := 102) d_MText_sign_98 (by decide) ?_
                    exact (show mt_two c d = 10 from (by unfold mt_two; rw [if_pos q1]; rw [if_neg (fun z => z q2)]; rw [if_pos q33]; rw [if_pos q34]; rw [if_pos q35]; rw [if_neg (fun z => z q36)]; rw [if_pos q39]; rw [if_neg (fun z => z q40)]; rw [if_neg (fun z => z q41)]; try rfl)) ▸ sgB hl0 hc hc2
              · refine ab_bipush (v := 9) d_MText_sign_79 (by decide) ?_
                refine ab_goto (tgt := 102) d_MText_sign_81 (by decide) ?_
                exact (show mt_two c d = 9 from (by unfold mt_two; rw [if_pos q1]; rw [if_neg (fun z => z q2)]; rw [if_pos q33]; rw [if_pos q34]; rw [if_pos q35]; rw [if_neg (fun z => z q36)]; rw [if_neg (fun z => z q39)]; try rfl)) ▸ sgB hl0 hc hc2
          · refine ab_iload_n d_MText_sign_56 rfl rfl ?_
            refine ab_bipush (v := 61) d_MText_sign_57 (by decide) ?_
            refine ab_icmp_ne (tgt := 67) d_MText_sign_59 (by decide) (fun q42 => ?_) (fun q42 => by exact absurd q42 (by assumption))
            refine ab_iload_n d_MText_sign_67 rfl rfl ?_
            refine ab_bipush (v := 38) d_MText_sign_68 (by decide) ?_
            refine ab_icmp_ne (tgt := 84) d_MText_sign_70 (by decide) (fun q43 => ?_) (fun q43 => ?_)
            · refine ab_iload_n d_MText_sign_84 rfl rfl ?_
              refine ab_bipush (v := 124) d_MText_sign_85 (by decide) ?_
              refine ab_icmp_ne (tgt := 101) d_MText_sign_87 (by decide) (fun q44 => ?_) (fun q44 => ?_)
              · refine ab_iconst (v := 0) d_MText_sign_101 (by decide) ?_
                exact (show mt_two c d = 0 from (by unfold mt_two; rw [if_pos q1]; rw [if_neg (fun z => z q2)]; rw [if_pos q33]; rw [if_pos q34]; rw [if_neg (fun z => z q35)]; rw [if_pos q43]; rw [if_pos q44]; try rfl)) ▸ sgB hl0 hc hc2
              · refine ab_iload_n d_MText_sign_90 rfl rfl ?_
                refine ab_bipush (v := 124) d_MText_sign_91 (by decide) ?_
                refine ab_icmp_ne (tgt := 101) d_MText_sign_93 (by decide) (fun q45 => ?_) (fun q45 => ?_)
                · refine ab_iconst (v := 0) d_MText_sign_101 (by decide) ?_
                  exact (show mt_two c d = 0 from (by unfold mt_two; rw [if_pos q1]; rw [if_neg (fun z => z q2)]; rw [if_pos q33]; rw [if_pos q34]; rw [if_neg (fun z => z q35)]; rw [if_pos q43]; rw [if_neg (fun z => z q44)]; rw [if_pos q45]; try rfl)) ▸ sgB hl0 hc hc2
                · refine ab_bipush (v := 10) d_MText_sign_96 (by decide) ?_
                  refine ab_goto (tgt := 102) d_MText_sign_98 (by decide) ?_
                  exact (show mt_two c d = 10 from (by unfold mt_two; rw [if_pos q1]; rw [if_neg (fun z => z q2)]; rw [if_pos q33]; rw [if_pos q34]; rw [if_neg (fun z => z q35)]; rw [if_pos q43]; rw [if_neg (fun z => z q44)]; rw [if_neg (fun z => z q45)]; try rfl)) ▸ sgB hl0 hc hc2
            · refine ab_iload_n d_MText_sign_73 rfl rfl ?_
              refine ab_bipush (v := 38) d_MText_sign_74 (by decide) ?_
              refine ab_icmp_ne (tgt := 84) d_MText_sign_76 (by decide) (fun q46 => ?_) (fun q46 => ?_)
              · refine ab_iload_n d_MText_sign_84 rfl rfl ?_
                refine ab_bipush (v := 124) d_MText_sign_85 (by decide) ?_
                refine ab_icmp_ne (tgt := 101) d_MText_sign_87 (by decide) (fun q47 => ?_) (fun q47 => ?_)
                · refine ab_iconst (v := 0) d_MText_sign_101 (by decide) ?_
                  exact (show mt_two c d = 0 from (by unfold mt_two; rw [if_pos q1]; rw [if_neg (fun z => z q2)]; rw [if_pos q33]; rw [if_pos q34]; rw [if_neg (fun z => z q35)]; rw [if_neg (fun z => z q43)]; rw [if_pos q46]; rw [if_pos q47]; try rfl)) ▸ sgB hl0 hc hc2
                · refine ab_iload_n d_MText_sign_90 rfl rfl ?_
                  refine ab_bipush (v := 124) d_MText_sign_91 (by decide) ?_
                  refine ab_icmp_ne (tgt := 101) d_MText_sign_93 (by decide) (fun q48 => ?_) (fun q48 => ?_)
                  · refine ab_iconst (v := 0) d_MText_sign_101 (by decide) ?_
                    exact (show mt_two c d = 0 from (by unfold mt_two; rw [if_pos q1]; rw [if_neg (fun z => z q2)]; rw [if_pos q33]; rw [if_pos q34]; rw [if_neg (fun z => z q35)]; rw [if_neg (fun z => z q43)]; rw [if_pos q46]; rw [if_neg (fun z => z q47)]; rw [if_pos q48]; try rfl)) ▸ sgB hl0 hc hc2
                  · refine ab_bipush (v := 10) d_MText_sign_96 (by decide) ?_
                    refine ab_goto (tgt := 102) d_MText_sign_98 (by decide) ?_
                    exact (show mt_two c d = 10 from (by unfold mt_two; rw [if_pos q1]; rw [if_neg (fun z => z q2)]; rw [if_pos q33]; rw [if_pos q34]; rw [if_neg (fun z => z q35)]; rw [if_neg (fun z => z q43)]; rw [if_pos q46]; rw [if_neg (fun z => z q47)]; rw [if_neg (fun z => z q48)]; try rfl)) ▸ sgB hl0 hc hc2
              · refine ab_bipush (v := 9) d_MText_sign_79 (by decide) ?_
                refine ab_goto (tgt := 102) d_MText_sign_81 (by decide) ?_
                exact (show mt_two c d = 9 from (by unfold mt_two; rw [if_pos q1]; rw [if_neg (fun z => z q2)]; rw [if_pos q33]; rw [if_pos q34]; rw [if_neg (fun z => z q35)]; rw [if_neg (fun z => z q43)]; rw [if_neg (fun z => z q46)]; try rfl)) ▸ sgB hl0 hc hc2
        · refine ab_iload_n d_MText_sign_39 rfl rfl ?_
          refine ab_bipush (v := 61) d_MText_sign_40 (by decide) ?_
          refine ab_icmp_ne (tgt := 50) d_MText_sign_42 (by decide) (fun q49 => ?_) (fun q49 => by exact absurd q49 (by assumption))
          refine ab_iload_n d_MText_sign_50 rfl rfl ?_
          refine ab_bipush (v := 33) d_MText_sign_51 (by decide) ?_
          refine ab_icmp_ne (tgt := 67) d_MText_sign_53 (by decide) (fun q50 => ?_) (fun q50 => ?_)
          · refine ab_iload_n d_MText_sign_67 rfl rfl ?_
            refine ab_bipush (v := 38) d_MText_sign_68 (by decide) ?_
            refine ab_icmp_ne (tgt := 84) d_MText_sign_70 (by decide) (fun q51 => ?_) (fun q51 => ?_)
            · refine ab_iload_n d_MText_sign_84 rfl rfl ?_
              refine ab_bipush (v := 124) d_MText_sign_85 (by decide) ?_
              refine ab_icmp_ne (tgt := 101) d_MText_sign_87 (by decide) (fun q52 => ?_) (fun q52 => ?_)
              · refine ab_iconst (v := 0) d_MText_sign_101 (by decide) ?_
                exact (show mt_two c d = 0 from (by unfold mt_two; rw [if_pos q1]; rw [if_neg (fun z => z q2)]; rw [if_pos q33]; rw [if_neg (fun z => z q34)]; rw [if_pos q50]; rw [if_pos q51]; rw [if_pos q52]; try rfl)) ▸ sgB hl0 hc hc2
              · refine ab_iload_n d_MText_sign_90 rfl rfl ?_
                refine ab_bipush (v := 124) d_MText_sign_91 (by decide) ?_
                refine ab_icmp_ne (tgt := 101) d_MText_sign_93 (by decide) (fun q53 => ?_) (fun q53 => ?_)
                · refine ab_iconst (v := 0) d_MText_sign_101 (by decide) ?_
                  exact (show mt_two c d = 0 from (by unfold mt_two; rw [if_pos q1]; rw [if_neg (fun z => z q2)]; rw [if_pos q33]; rw [if_neg (fun z => z q34)]; rw [if_pos q50]; rw [if_pos q51]; rw [if_neg (fun z => z q52)]; rw [if_pos q53]; try rfl)) ▸ sgB hl0 hc hc2
                · refine ab_bipush (v := 10) d_MText_sign_96 (by decide) ?_
                  refine ab_goto (tgt := 102) d_MText_sign_98 (by decide) ?_
                  exact (show mt_two c d = 10 from (by unfold mt_two; rw [if_pos q1]; rw [if_neg (fun z => z q2)]; rw [if_pos q33]; rw [if_neg (fun z => z q34)]; rw [if_pos q50]; rw [if_pos q51]; rw [if_neg (fun z => z q52)]; rw [if_neg (fun z => z q53)]; try rfl)) ▸ sgB hl0 hc hc2
            · refine ab_iload_n d_MText_sign_73 rfl rfl ?_
              refine ab_bipush (v := 38) d_MText_sign_74 (by decide) ?_
              refine ab_icmp_ne (tgt := 84) d_MText_sign_76 (by decide) (fun q54 => ?_) (fun q54 => ?_)
              · refine ab_iload_n d_MText_sign_84 rfl rfl ?_
                refine ab_bipush (v := 124) d_MText_sign_85 (by decide) ?_
                refine ab_icmp_ne (tgt := 101) d_MText_sign_87 (by decide) (fun q55 => ?_) (fun q55 => ?_)
                · refine ab_iconst (v := 0) d_MText_sign_101 (by decide) ?_
                  exact (show mt_two c d = 0 from (by unfold mt_two; rw [if_pos q1]; rw [if_neg (fun z => z q2)]; rw [if_pos q33]; rw [if_neg (fun z => z q34)]; rw [if_pos q50]; rw [if_neg (fun z => z q51)]; rw [if_pos q54]; rw [if_pos q55]; try rfl)) ▸ sgB hl0 hc hc2
                · refine ab_iload_n d_MText_sign_90 rfl rfl ?_
                  refine ab_bipush (v := 124) d_MText_sign_91 (by decide) ?_
                  refine ab_icmp_ne (tgt := 101) d_MText_sign_93 (by decide) (fun q56 => ?_) (fun q56 => ?_)
                  · refine ab_iconst (v := 0) d_MText_sign_101 (by decide) ?_
                    exact (show mt_two c d = 0 from (by unfold mt_two; rw [if_pos q1]; rw [if_neg (fun z => z q2)]; rw [if_pos q33]; rw [if_neg (fun z => z q34)]; rw [if_pos q50]; rw [if_neg (fun z => z q51)]; rw [if_pos q54]; rw [if_neg (fun z => z q55)]; rw [if_pos q56]; try rfl)) ▸ sgB hl0 hc hc2
                  · refine ab_bipush (v := 10) d_MText_sign_96 (by decide) ?_
                    refine ab_goto (tgt := 102) d_MText_sign_98 (by decide) ?_
                    exact (show mt_two c d = 10 from (by unfold mt_two; rw [if_pos q1]; rw [if_neg (fun z => z q2)]; rw [if_pos q33]; rw [if_neg (fun z => z q34)]; rw [if_pos q50]; rw [if_neg (fun z => z q51)]; rw [if_pos q54]; rw [if_neg (fun z => z q55)]; rw [if_neg (fun z => z q56)]; try rfl)) ▸ sgB hl0 hc hc2
              · refine ab_bipush (v := 9) d_MText_sign_79 (by decide) ?_
                refine ab_goto (tgt := 102) d_MText_sign_81 (by decide) ?_
                exact (show mt_two c d = 9 from (by unfold mt_two; rw [if_pos q1]; rw [if_neg (fun z => z q2)]; rw [if_pos q33]; rw [if_neg (fun z => z q34)]; rw [if_pos q50]; rw [if_neg (fun z => z q51)]; rw [if_neg (fun z => z q54)]; try rfl)) ▸ sgB hl0 hc hc2
          · refine ab_iload_n d_MText_sign_56 rfl rfl ?_
            refine ab_bipush (v := 61) d_MText_sign_57 (by decide) ?_
            refine ab_icmp_ne (tgt := 67) d_MText_sign_59 (by decide) (fun q57 => ?_) (fun q57 => by exact absurd q57 (by assumption))
            refine ab_iload_n d_MText_sign_67 rfl rfl ?_
            refine ab_bipush (v := 38) d_MText_sign_68 (by decide) ?_
            refine ab_icmp_ne (tgt := 84) d_MText_sign_70 (by decide) (fun q58 => ?_) (fun q58 => ?_)
            · refine ab_iload_n d_MText_sign_84 rfl rfl ?_
              refine ab_bipush (v := 124) d_MText_sign_85 (by decide) ?_
              refine ab_icmp_ne (tgt := 101) d_MText_sign_87 (by decide) (fun q59 => ?_) (fun q59 => ?_)
              · refine ab_iconst (v := 0) d_MText_sign_101 (by decide) ?_
                exact (show mt_two c d = 0 from (by unfold mt_two; rw [if_pos q1]; rw [if_neg (fun z => z q2)]; rw [if_pos q33]; rw [if_neg (fun z => z q34)]; rw [if_neg (fun z => z q50)]; rw [if_pos q58]; rw [if_pos q59]; try rfl)) ▸ sgB hl0 hc hc2
              · refine ab_iload_n d_MText_sign_90 rfl rfl ?_
                refine ab_bipush (v := 124) d_MText_sign_91 (by decide) ?_
                refine ab_icmp_ne (tgt := 101) d_MText_sign_93 (by decide) (fun q60 => ?_) (fun q60 => ?_)
                · refine ab_iconst (v := 0) d_MText_sign_101 (by decide) ?_
                  exact (show mt_two c d = 0 from (by unfold mt_two; rw [if_pos q1]; rw [if_neg (fun z => z q2)]; rw [if_pos q33]; rw [if_neg (fun z => z q34)]; rw [if_neg (fun z => z q50)]; rw [if_pos q58]; rw [if_neg (fun z => z q59)]; rw [if_pos q60]; try rfl)) ▸ sgB hl0 hc hc2
                · refine ab_bipush (v := 10) d_MText_sign_96 (by decide) ?_
                  refine ab_goto (tgt := 102) d_MText_sign_98 (by decide) ?_
                  exact (show mt_two c d = 10 from (by unfold mt_two; rw [if_pos q1]; rw [if_neg (fun z => z q2)]; rw [if_pos q33]; rw [if_neg (fun z => z q34)]; rw [if_neg (fun z => z q50)]; rw [if_pos q58]; rw [if_neg (fun z => z q59)]; rw [if_neg (fun z => z q60)]; try rfl)) ▸ sgB hl0 hc hc2
            · refine ab_iload_n d_MText_sign_73 rfl rfl ?_
              refine ab_bipush (v := 38) d_MText_sign_74 (by decide) ?_
              refine ab_icmp_ne (tgt := 84) d_MText_sign_76 (by decide) (fun q61 => ?_) (fun q61 => ?_)
              · refine ab_iload_n d_MText_sign_84 rfl rfl ?_
                refine ab_bipush (v := 124) d_MText_sign_85 (by decide) ?_
                refine ab_icmp_ne (tgt := 101) d_MText_sign_87 (by decide) (fun q62 => ?_) (fun q62 => ?_)
                · refine ab_iconst (v := 0) d_MText_sign_101 (by decide) ?_
                  exact (show mt_two c d = 0 from (by unfold mt_two; rw [if_pos q1]; rw [if_neg (fun z => z q2)]; rw [if_pos q33]; rw [if_neg (fun z => z q34)]; rw [if_neg (fun z => z q50)]; rw [if_neg (fun z => z q58)]; rw [if_pos q61]; rw [if_pos q62]; try rfl)) ▸ sgB hl0 hc hc2
                · refine ab_iload_n d_MText_sign_90 rfl rfl ?_
                  refine ab_bipush (v := 124) d_MText_sign_91 (by decide) ?_
                  refine ab_icmp_ne (tgt := 101) d_MText_sign_93 (by decide) (fun q63 => ?_) (fun q63 => ?_)
                  · refine ab_iconst (v := 0) d_MText_sign_101 (by decide) ?_
                    exact (show mt_two c d = 0 from (by unfold mt_two; rw [if_pos q1]; rw [if_neg (fun z => z q2)]; rw [if_pos q33]; rw [if_neg (fun z => z q34)]; rw [if_neg (fun z => z q50)]; rw [if_neg (fun z => z q58)]; rw [if_pos q61]; rw [if_neg (fun z => z q62)]; rw [if_pos q63]; try rfl)) ▸ sgB hl0 hc hc2
                  · refine ab_bipush (v := 10) d_MText_sign_96 (by decide) ?_
                    refine ab_goto (tgt := 102) d_MText_sign_98 (by decide) ?_
                    exact (show mt_two c d = 10 from (by unfold mt_two; rw [if_pos q1]; rw [if_neg (fun z => z q2)]; rw [if_pos q33]; rw [if_neg (fun z => z q34)]; rw [if_neg (fun z => z q50)]; rw [if_neg (fun z => z q58)]; rw [if_pos q61]; rw [if_neg (fun z => z q62)]; rw [if_neg (fun z => z q63)]; try rfl)) ▸ sgB hl0 hc hc2
              · refine ab_bipush (v := 9) d_MText_sign_79 (by decide) ?_
                refine ab_goto (tgt := 102) d_MText_sign_81 (by decide) ?_
                exact (show mt_two c d = 9 from (by unfold mt_two; rw [if_pos q1]; rw [if_neg (fun z => z q2)]; rw [if_pos q33]; rw [if_neg (fun z => z q34)]; rw [if_neg (fun z => z q50)]; rw [if_neg (fun z => z q58)]; rw [if_neg (fun z => z q61)]; try rfl)) ▸ sgB hl0 hc hc2
      · refine ab_bipush (v := 6) d_MText_sign_28 (by decide) ?_
        refine ab_goto (tgt := 102) d_MText_sign_30 (by decide) ?_
        exact (show mt_two c d = 6 from (by unfold mt_two; rw [if_pos q1]; rw [if_neg (fun z => z q2)]; rw [if_neg (fun z => z q33)]; try rfl)) ▸ sgB hl0 hc hc2
  · refine ab_iload_n d_MText_sign_6 rfl rfl ?_
    refine ab_bipush (v := 61) d_MText_sign_7 (by decide) ?_
    refine ab_icmp_ne (tgt := 16) d_MText_sign_9 (by decide) (fun q64 => ?_) (fun q64 => ?_)
    · refine ab_iload_n d_MText_sign_16 rfl rfl ?_
      refine ab_bipush (v := 62) d_MText_sign_17 (by decide) ?_
      refine ab_icmp_ne (tgt := 33) d_MText_sign_19 (by decide) (fun q65 => ?_) (fun q65 => ?_)
      · refine ab_iload_n d_MText_sign_33 rfl rfl ?_
        refine ab_bipush (v := 61) d_MText_sign_34 (by decide) ?_
        refine ab_icmp_ne (tgt := 50) d_MText_sign_36 (by decide) (fun q66 => ?_) (fun q66 => ?_)
        · refine ab_iload_n d_MText_sign_50 rfl rfl ?_
          refine ab_bipush (v := 33) d_MText_sign_51 (by decide) ?_
          refine ab_icmp_ne (tgt := 67) d_MText_sign_53 (by decide) (fun q67 => ?_) (fun q67 => ?_)
          · refine ab_iload_n d_MText_sign_67 rfl rfl ?_
            refine ab_bipush (v := 38) d_MText_sign_68 (by decide) ?_
            refine ab_icmp_ne (tgt := 84) d_MText_sign_70 (by decide) (fun q68 => ?_) (fun q68 => ?_)
            · refine ab_iload_n d_MText_sign_84 rfl rfl ?_
              refine ab_bipush (v := 124) d_MText_sign_85 (by decide) ?_
              refine ab_icmp_ne (tgt := 101) d_MText_sign_87 (by decide) (fun q69 => ?_) (fun q69 => ?_)
              · refine ab_iconst (v := 0) d_MText_sign_101 (by decide) ?_
                exact (show mt_two c d = 0 from (by unfold mt_two; rw [if_neg (fun z => z q1)]; rw [if_pos q64]; rw [if_pos q65]; rw [if_pos q66]; rw [if_pos q67]; rw [if_pos q68]; rw [if_pos q69]; try rfl)) ▸ sgB hl0 hc hc2
              · refine ab_iload_n d_MText_sign_90 rfl rfl ?_
                refine ab_bipush (v := 124) d_MText_sign_91 (by decide) ?_
                refine ab_icmp_ne (tgt := 101) d_MText_sign_93 (by decide) (fun q70 => ?_) (fun q70 => ?_)
                · refine ab_iconst (v := 0) d_MText_sign_101 (by decide) ?_
                  exact (show mt_two c d = 0 from (by unfold mt_two; rw [if_neg (fun z => z q1)]; rw [if_pos q64]; rw [if_pos q65]; rw [if_pos q66]; rw [if_pos q67]; rw [if_pos q68]; rw [if_neg (fun z => z q69)]; rw [if_pos q70]; try rfl)) ▸ sgB hl0 hc hc2
                · refine ab_bipush (v := 10) d_MText_sign_96 (by decide) ?_
                  refine ab_goto (tgt := 102) d_MText_sign_98 (by decide) ?_
                  exact (show mt_two c d = 10 from (by unfold mt_two; rw [if_neg (fun z => z q1)]; rw [if_pos q64]; rw [if_pos q65]; rw [if_pos q66]; rw [if_pos q67]; rw [if_pos q68]; rw [if_neg (fun z => z q69)]; rw [if_neg (fun z => z q70)]; try rfl)) ▸ sgB hl0 hc hc2
            · refine ab_iload_n d_MText_sign_73 rfl rfl ?_
              refine ab_bipush (v := 38) d_MText_sign_74 (by decide) ?_
              refine ab_icmp_ne (tgt := 84) d_MText_sign_76 (by decide) (fun q71 => ?_) (fun q71 => ?_)
              · refine ab_iload_n d_MText_sign_84 rfl rfl ?_
                refine ab_bipush (v := 124) d_MText_sign_85 (by decide) ?_
                refine ab_icmp_ne (tgt := 101) d_MText_sign_87 (by decide) (fun q72 => ?_) (fun q72 => ?_)
                · refine ab_iconst (v := 0) d_MText_sign_101 (by decide) ?_
                  exact (show mt_two c d = 0 from (by unfold mt_two; rw [if_neg (fun z => z q1)]; rw [if_pos q64]; rw [if_pos q65]; rw [if_pos q66]; rw [if_pos q67]; rw [if_neg (fun z => z q68)]; rw [if_pos q71]; rw [if_pos q72]; try rfl)) ▸ sgB hl0 hc hc2
                · refine ab_iload_n d_MText_sign_90 rfl rfl ?_
                  refine ab_bipush (v := 124) d_MText_sign_91 (by decide) ?_
                  refine ab_icmp_ne (tgt := 101) d_MText_sign_93 (by decide) (fun q73 => ?_) (fun q73 => ?_)
                  · refine ab_iconst (v := 0) d_MText_sign_101 (by decide) ?_
                    exact (show mt_two c d = 0 from (by unfold mt_two; rw [if_neg (fun z => z q1)]; rw [if_pos q64]; rw [if_pos q65]; rw [if_pos q66]; rw [if_pos q67]; rw [if_neg (fun z => z q68)]; rw [if_pos q71]; rw [if_neg (fun z => z q72)]; rw [if_pos q73]; try rfl)) ▸ sgB hl0 hc hc2
                  · refine ab_bipush (v := 10) d_MText_sign_96 (by decide) ?_
                    refine ab_goto (tgt := 102) d_MText_sign_98 (by decide) ?_
                    exact (show mt_two c d = 10 from (by unfold mt_two; rw [if_neg (fun z => z q1)]; rw [if_pos q64]; rw [if_pos q65]; rw [if_pos q66]; rw [if_pos q67]; rw [if_neg (fun z => z q68)]; rw [if_pos q71]; rw [if_neg (fun z => z q72)]; rw [if_neg (fun z => z q73)]; try rfl)) ▸ sgB hl0 hc hc2
              · refine ab_bipush (v := 9) d_MText_sign_79 (by decide) ?_
                refine ab_goto (tgt := 102) d_MText_sign_81 (by decide) ?_
                exact (show mt_two c d = 9 from (by unfold mt_two; rw [if_neg (fun z => z q1)]; rw [if_pos q64]; rw [if_pos q65]; rw [if_pos q66]; rw [if_pos q67]; rw [if_neg (fun z => z q68)]; rw [if_neg (fun z => z q71)]; try rfl)) ▸ sgB hl0 hc hc2
          · refine ab_iload_n d_MText_sign_56 rfl rfl ?_
            refine ab_bipush (v := 61) d_MText_sign_57 (by decide) ?_
            refine ab_icmp_ne (tgt := 67) d_MText_sign_59 (by decide) (fun q74 => ?_) (fun q74 => by exact absurd q74 (by assumption))
            refine ab_iload_n d_MText_sign_67 rfl rfl ?_
            refine ab_bipush (v := 38) d_MText_sign_68 (by decide) ?_
            refine ab_icmp_ne (tgt := 84) d_MText_sign_70 (by decide) (fun q75 => ?_) (fun q75 => ?_)
            · refine ab_iload_n d_MText_sign_84 rfl rfl ?_
              refine ab_bipush (v := 124) d_MText_sign_85 (by decide) ?_
              refine ab_icmp_ne (tgt := 101) d_MText_sign_87 (by decide) (fun q76 => ?_) (fun q76 => ?_)
              · refine ab_iconst (v := 0) d_MText_sign_101 (by decide) ?_
                exact (show mt_two c d = 0 from (by unfold mt_two; rw [if_neg (fun z => z q1)]; rw [if_pos q64]; rw [if_pos q65]; rw [if_pos q66]; rw [if_neg (fun z => z q67)]; rw [if_pos q75]; rw [if_pos q76]; try rfl)) ▸ sgB hl0 hc hc2
              · refine ab_iload_n d_MText_sign_90 rfl rfl ?_
                refine ab_bipush (v := 124) d_MText_sign_91 (by decide) ?_
                refine ab_icmp_ne (tgt := 101) d_MText_sign_93 (by decide) (fun q77 => ?_) (fun q77 => ?_)
                · refine ab_iconst (v := 0) d_MText_sign_101 (by decide) ?_
                  exact (show mt_two c d = 0 from (by unfold mt_two; rw [if_neg (fun z => z q1)]; rw [if_pos q64]; rw [if_pos q65]; rw [if_pos q66]; rw [if_neg (fun z => z q67)]; rw [if_pos q75]; rw [if_neg (fun z => z q76)]; rw [if_pos q77]; try rfl)) ▸ sgB hl0 hc hc2
                · refine ab_bipush (v := 10) d_MText_sign_96 (by decide) ?_
                  refine ab_goto (tgt := 102) d_MText_sign_98 (by decide) ?_
                  exact (show mt_two c d = 10 from (by unfold mt_two; rw [if_neg (fun z => z q1)]; rw [if_pos q64]; rw [if_pos q65]; rw [if_pos q66]; rw [if_neg (fun z => z q67)]; rw [if_pos q75]; rw [if_neg (fun z => z q76)]; rw [if_neg (fun z => z q77)]; try rfl)) ▸ sgB hl0 hc hc2
            · refine ab_iload_n d_MText_sign_73 rfl rfl ?_
              refine ab_bipush (v := 38) d_MText_sign_74 (by decide) ?_
              refine ab_icmp_ne (tgt := 84) d_MText_sign_76 (by decide) (fun q78 => ?_) (fun q78 => ?_)
              · refine ab_iload_n d_MText_sign_84 rfl rfl ?_
                refine ab_bipush (v := 124) d_MText_sign_85 (by decide) ?_
                refine ab_icmp_ne (tgt := 101) d_MText_sign_87 (by decide) (fun q79 => ?_) (fun q79 => ?_)
                · refine ab_iconst (v := 0) d_MText_sign_101 (by decide) ?_
                  exact (show mt_two c d = 0 from (by unfold mt_two; rw [if_neg (fun z => z q1)]; rw [if_pos q64]; rw [if_pos q65]; rw [if_pos q66]; rw [if_neg (fun z => z q67)]; rw [if_neg (fun z => z q75)]; rw [if_pos q78]; rw [if_pos q79]; try rfl)) ▸ sgB hl0 hc hc2
                · refine ab_iload_n d_MText_sign_90 rfl rfl ?_
                  refine ab_bipush (v := 124) d_MText_sign_91 (by decide) ?_
                  refine ab_icmp_ne (tgt := 101) d_MText_sign_93 (by decide) (fun q80 => ?_) (fun q80 => ?_)
                  · refine ab_iconst (v := 0) d_MText_sign_101 (by decide) ?_
                    exact (show mt_two c d = 0 from (by unfold mt_two; rw [if_neg (fun z => z q1)]; rw [if_pos q64]; rw [if_pos q65]; rw [if_pos q66]; rw [if_neg (fun z => z q67)]; rw [if_neg (fun z => z q75)]; rw [if_pos q78]; rw [if_neg (fun z => z q79)]; rw [if_pos q80]; try rfl)) ▸ sgB hl0 hc hc2
                  · refine ab_bipush (v := 10) d_MText_sign_96 (by decide) ?_
                    refine ab_goto (tgt := 102) d_MText_sign_98 (by decide) ?_
                    exact (show mt_two c d = 10 from (by unfold mt_two; rw [if_neg (fun z => z q1)]; rw [if_pos q64]; rw [if_pos q65]; rw [if_pos q66]; rw [if_neg (fun z => z q67)]; rw [if_neg (fun z => z q75)]; rw [if_pos q78]; rw [if_neg (fun z => z q79)]; rw [if_neg (fun z => z q80)]; try rfl)) ▸ sgB hl0 hc hc2
              · refine ab_bipush (v := 9) d_MText_sign_79 (by decide) ?_
                refine ab_goto (tgt := 102) d_MText_sign_81 (by decide) ?_
                exact (show mt_two c d = 9 from (by unfold mt_two; rw [if_neg (fun z => z q1)]; rw [if_pos q64]; rw [if_pos q65]; rw [if_pos q66]; rw [if_neg (fun z => z q67)]; rw [if_neg (fun z => z q75)]; rw [if_neg (fun z => z q78)]; try rfl)) ▸ sgB hl0 hc hc2
        · refine ab_iload_n d_MText_sign_39 rfl rfl ?_
          refine ab_bipush (v := 61) d_MText_sign_40 (by decide) ?_
          refine ab_icmp_ne (tgt := 50) d_MText_sign_42 (by decide) (fun q81 => ?_) (fun q81 => by exact absurd q81 (by assumption))
          refine ab_iload_n d_MText_sign_50 rfl rfl ?_
          refine ab_bipush (v := 33) d_MText_sign_51 (by decide) ?_
          refine ab_icmp_ne (tgt := 67) d_MText_sign_53 (by decide) (fun q82 => ?_) (fun q82 => ?_)
          · refine ab_iload_n d_MText_sign_67 rfl rfl ?_
            refine ab_bipush (v := 38) d_MText_sign_68 (by decide) ?_
            refine ab_icmp_ne (tgt := 84) d_MText_sign_70 (by decide) (fun q83 => ?_) (fun q83 => ?_)
            · refine ab_iload_n d_MText_sign_84 rfl rfl ?_
              refine ab_bipush (v := 124) d_MText_sign_85 (by decide) ?_
              refine ab_icmp_ne (tgt := 101) d_MText_sign_87 (by decide) (fun q84 => ?_) (fun q84 => ?_)
              · refine ab_iconst (v := 0) d_MText_sign_101 (by decide) ?_
                exact (show mt_two c d = 0 from (by unfold mt_two; rw [if_neg (fun z => z q1)]; rw [if_pos q64]; rw [if_pos q65]; rw [if_neg (fun z => z q66)]; rw [if_pos q82]; rw [if_pos q83]; rw [if_pos q84]; try rfl)) ▸ sgB hl0 hc hc2
              · refine ab_iload_n d_MText_sign_90 rfl rfl ?_
                refine ab_bipush (v := 124) d_MText_sign_91 (by decide) ?_
                refine ab_icmp_ne (tgt := 101) d_MText_sign_93 (by decide) (fun q85 => ?_) (fun q85 => ?_)
                · refine ab_iconst (v := 0) d_MText_sign_101 (by decide) ?_
                  exact (show mt_two c d = 0 from (by unfold mt_two; rw [if_neg (fun z => z q1)]; rw [if_pos q64]; rw [if_pos q65]; rw [if_neg (fun z => z q66)]; rw [if_pos q82]; rw [if_pos q83]; rw [if_neg (fun z => z q84)]; rw [if_pos q85]; try rfl)) ▸ sgB hl0 hc hc2
                · refine ab_bipush (v := 10) d_MText_sign_96 (by decide) ?_
                  refine ab_goto (tgt := 102) d_MText_sign_98 (by decide) ?_
                  exact (show mt_two c d = 10 from (by unfold mt_two; rw [if_neg (fun z => z q1)]; rw [if_pos q64]; rw [if_pos q65]; rw [if_neg (fun z => z q66)]; rw [if_pos q82]; rw [if_pos q83]; rw [if_neg (fun z => z q84)]; rw [if_neg (fun z => z q85)]; try rfl)) ▸ sgB hl0 hc hc2
            · refine ab_iload_n d_MText_sign_73 rfl rfl ?_
              refine ab_bipush (v := 38) d_MText_sign_74 (by decide) ?_
              refine ab_icmp_ne (tgt := 84) d_MText_sign_76 (by decide) (fun q86 => ?_) (fun q86 => ?_)
              · refine ab_iload_n d_MText_sign_84 rfl rfl ?_
                refine ab_bipush (v := 124) d_MText_sign_85 (by decide) ?_
                refine ab_icmp_ne (tgt := 101) d_MText_sign_87 (by decide) (fun q87 => ?_) (fun q87 => ?_)
                · refine ab_iconst (v := 0) d_MText_sign_101 (by decide) ?_
                  exact (show mt_two c d = 0 from (by unfold mt_two; rw [if_neg (fun z => z q1)]; rw [if_pos q64]; rw [if_pos q65]; rw [if_neg (fun z => z q66)]; rw [if_pos q82]; rw [if_neg (fun z => z q83)]; rw [if_pos q86]; rw [if_pos q87]; try rfl)) ▸ sgB hl0 hc hc2
                · refine ab_iload_n d_MText_sign_90 rfl rfl ?_
                  refine ab_bipush (v := 124) d_MText_sign_91 (by decide) ?_
                  refine ab_icmp_ne (tgt := 101) d_MText_sign_93 (by decide) (fun q88 => ?_) (fun q88 => ?_)
                  · refine ab_iconst (v := 0) d_MText_sign_101 (by decide) ?_
                    exact (show mt_two c d = 0 from (by unfold mt_two; rw [if_neg (fun z => z q1)]; rw [if_pos q64]; rw [if_pos q65]; rw [if_neg (fun z => z q66)]; rw [if_pos q82]; rw [if_neg (fun z => z q83)]; rw [if_pos q86]; rw [if_neg (fun z => z q87)]; rw [if_pos q88]; try rfl)) ▸ sgB hl0 hc hc2
                  · refine ab_bipush (v := 10) d_MText_sign_96 (by decide) ?_
                    refine ab_goto (tgt := 102) d_MText_sign_98 (by decide) ?_
                    exact (show mt_two c d = 10 from (by unfold mt_two; rw [if_neg (fun z => z q1)]; rw [if_pos q64]; rw [if_pos q65]; rw [if_neg (fun z => z q66)]; rw [if_pos q82]; rw [if_neg (fun z => z q83)]; rw [if_pos q86]; rw [if_neg (fun z => z q87)]; rw [if_neg (fun z => z q88)]; try rfl)) ▸ sgB hl0 hc hc2
              · refine ab_bipush (v := 9) d_MText_sign_79 (by decide) ?_
                refine ab_goto (tgt := 102) d_MText_sign_81 (by decide) ?_
                exact (show mt_two c d = 9 from (by unfold mt_two; rw [if_neg (fun z => z q1)]; rw [if_pos q64]; rw [if_pos q65]; rw [if_neg (fun z => z q66)]; rw [if_pos q82]; rw [if_neg (fun z => z q83)]; rw [if_neg (fun z => z q86)]; try rfl)) ▸ sgB hl0 hc hc2
          · refine ab_iload_n d_MText_sign_56 rfl rfl ?_
            refine ab_bipush (v := 61) d_MText_sign_57 (by decide) ?_
            refine ab_icmp_ne (tgt := 67) d_MText_sign_59 (by decide) (fun q89 => ?_) (fun q89 => by exact absurd q89 (by assumption))
            refine ab_iload_n d_MText_sign_67 rfl rfl ?_
            refine ab_bipush (v := 38) d_MText_sign_68 (by decide) ?_
            refine ab_icmp_ne (tgt := 84) d_MText_sign_70 (by decide) (fun q90 => ?_) (fun q90 => ?_)
            · refine ab_iload_n d_MText_sign_84 rfl rfl ?_
              refine ab_bipush (v := 124) d_MText_sign_85 (by decide) ?_
              refine ab_icmp_ne (tgt := 101) d_MText_sign_87 (by decide) (fun q91 => ?_) (fun q91 => ?_)
              · refine ab_iconst (v := 0) d_MText_sign_101 (by decide) ?_
                exact (show mt_two c d = 0 from (by unfold mt_two; rw [if_neg (fun z => z q1)]; rw [if_pos q64]; rw [if_pos q65]; rw [if_neg (fun z => z q66)]; rw [if_neg (fun z => z q82)]; rw [if_pos q90]; rw [if_pos q91]; try rfl)) ▸ sgB hl0 hc hc2
              · refine ab_iload_n d_MText_sign_90 rfl rfl ?_
                refine ab_bipush (v := 124) d_MText_sign_91 (by decide) ?_
                refine ab_icmp_ne (tgt := 101) d_MText_sign_93 (by decide) (fun q92 => ?_) (fun q92 => ?_)
                · refine ab_iconst (v := 0) d_MText_sign_101 (by decide) ?_
                  exact (show mt_two c d = 0 from (by unfold mt_two; rw [if_neg (fun z => z q1)]; rw [if_pos q64]; rw [if_pos q65]; rw [if_neg (fun z => z q66)]; rw [if_neg (fun z => z q82)]; rw [if_pos q90]; rw [if_neg (fun z => z q91)]; rw [if_pos q92]; try rfl)) ▸ sgB hl0 hc hc2
                · refine ab_bipush (v := 10) d_MText_sign_96 (by decide) ?_
                  refine ab_goto (tgt := 102) d_MText_sign_98 (by decide) ?_
                  exact (show mt_two c d = 10 from (by unfold mt_two; rw [if_neg (fun z => z q1)]; rw [if_pos q64]; rw [if_pos q65]; rw [if_neg (fun z => z q66)]; rw [if_neg (fun z => z q82)]; rw [if_pos q90]; rw [if_neg (fun z => z q91)]; rw [if_neg (fun z => z q92)]; try rfl)) ▸ sgB hl0 hc hc2
            · refine ab_iload_n d_MText_sign_73 rfl rfl ?_
              refine ab_bipush (v := 38) d_MText_sign_74 (by decide) ?_
              refine ab_icmp_ne (tgt := 84) d_MText_sign_76 (by decide) (fun q93 => ?_) (fun q93 => ?_)
              · refine ab_iload_n d_MText_sign_84 rfl rfl ?_
                refine ab_bipush (v := 124) d_MText_sign_85 (by decide) ?_
                refine ab_icmp_ne (tgt := 101) d_MText_sign_87 (by decide) (fun q94 => ?_) (fun q94 => ?_)
                · refine ab_iconst (v := 0) d_MText_sign_101 (by decide) ?_
                  exact (show mt_two c d = 0 from (by unfold mt_two; rw [if_neg (fun z => z q1)]; rw [if_pos q64]; rw [if_pos q65]; rw [if_neg (fun z => z q66)]; rw [if_neg (fun z => z q82)]; rw [if_neg (fun z => z q90)]; rw [if_pos q93]; rw [if_pos q94]; try rfl)) ▸ sgB hl0 hc hc2
                · refine ab_iload_n d_MText_sign_90 rfl rfl ?_
                  refine ab_bipush (v := 124) d_MText_sign_91 (by decide) ?_
                  refine ab_icmp_ne (tgt := 101) d_MText_sign_93 (by decide) (fun q95 => ?_) (fun q95 => ?_)
                  · refine ab_iconst (v := 0) d_MText_sign_101 (by decide) ?_
                    exact (show mt_two c d = 0 from (by unfold mt_two; rw [if_neg (fun z => z q1)]; rw [if_pos q64]; rw [if_pos q65]; rw [if_neg (fun z => z q66)]; rw [if_neg (fun z => z q82)]; rw [if_neg (fun z => z q90)]; rw [if_pos q93]; rw [if_neg (fun z => z q94)]; rw [if_pos q95]; try rfl)) ▸ sgB hl0 hc hc2
                  · refine ab_bipush (v := 10) d_MText_sign_96 (by decide) ?_
                    refine ab_goto (tgt := 102) d_MText_sign_98 (by decide) ?_
                    exact (show mt_two c d = 10 from (by unfold mt_two; rw [if_neg (fun z => z q1)]; rw [if_pos q64]; rw [if_pos q65]; rw [if_neg (fun z => z q66)]; rw [if_neg (fun z => z q82)]; rw [if_neg (fun z => z q90)]; rw [if_pos q93]; rw [if_neg (fun z => z q94)]; rw [if_neg (fun z => z q95)]; try rfl)) ▸ sgB hl0 hc hc2
              · refine ab_bipush (v := 9) d_MText_sign_79 (by decide) ?_
                refine ab_goto (tgt := 102) d_MText_sign_81 (by decide) ?_
                exact (show mt_two c d = 9 from (by unfold mt_two; rw [if_neg (fun z => z q1)]; rw [if_pos q64]; rw [if_pos q65]; rw [if_neg (fun z => z q66)]; rw [if_neg (fun z => z q82)]; rw [if_neg (fun z => z q90)]; rw [if_neg (fun z => z q93)]; try rfl)) ▸ sgB hl0 hc hc2
      · refine ab_iload_n d_MText_sign_22 rfl rfl ?_
        refine ab_bipush (v := 61) d_MText_sign_23 (by decide) ?_
        refine ab_icmp_ne (tgt := 33) d_MText_sign_25 (by decide) (fun q96 => ?_) (fun q96 => by exact absurd q96 (by assumption))
        refine ab_iload_n d_MText_sign_33 rfl rfl ?_
        refine ab_bipush (v := 61) d_MText_sign_34 (by decide) ?_
        refine ab_icmp_ne (tgt := 50) d_MText_sign_36 (by decide) (fun q97 => ?_) (fun q97 => ?_)
        · refine ab_iload_n d_MText_sign_50 rfl rfl ?_
          refine ab_bipush (v := 33) d_MText_sign_51 (by decide) ?_
          refine ab_icmp_ne (tgt := 67) d_MText_sign_53 (by decide) (fun q98 => ?_) (fun q98 => ?_)
          · refine ab_iload_n d_MText_sign_67 rfl rfl ?_
            refine ab_bipush (v := 38) d_MText_sign_68 (by decide) ?_
            refine ab_icmp_ne (tgt := 84) d_MText_sign_70 (by decide) (fun q99 => ?_) (fun q99 => ?_)
            · refine ab_iload_n d_MText_sign_84 rfl rfl ?_
              refine ab_bipush (v := 124) d_MText_sign_85 (by decide) ?_
              refine ab_icmp_ne (tgt := 101) d_MText_sign_87 (by decide) (fun q100 => ?_) (fun q100 => ?_)
              · refine ab_iconst (v := 0) d_MText_sign_101 (by decide) ?_
                exact (show mt_two c d = 0 from (by unfold mt_two; rw [if_neg (fun z => z q1)]; rw [if_pos q64]; rw [if_neg (fun z => z q65)]; rw [if_pos q97]; rw [if_pos q98]; rw [if_pos q99]; rw [if_pos q100]; try rfl)) ▸ sgB hl0 hc hc2
              · refine ab_iload_n d_MText_sign_90 rfl rfl ?_
                refine ab_bipush (v := 124) d_MText_sign_91 (by decide) ?_
                refine ab_icmp_ne (tgt := 101) d_MText_sign_93 (by decide) (fun q101 => ?_) (fun q101 => ?_)
                · refine ab_iconst (v := 0) d_MText_sign_101 (by decide) ?_
                  exact (show mt_two c d = 0 from (by unfold mt_two; rw [if_neg (fun z => z q1)]; rw [if_pos q64]; rw [if_neg (fun z => z q65)]; rw [if_pos q97]; rw [if_pos q98]; rw [if_pos q99]; rw [if_neg (fun z => z q100)]; rw [if_pos q101]; try rfl)) ▸ sgB hl0 hc hc2
                · refine ab_bipush (v := 10) d_MText_sign_96 (by decide) ?_
                  refine ab_goto (tgt := 102) d_MText_sign_98 (by decide) ?_
                  exact (show mt_two c d = 10 from (by unfold mt_two; rw [if_neg (fun z => z q1)]; rw [if_pos q64]; rw [if_neg (fun z => z q65)]; rw [if_pos q97]; rw [if_pos q98]; rw [if_pos q99]; rw [if_neg (fun z => z q100)]; rw [if_neg (fun z => z q101)]; try rfl)) ▸ sgB hl0 hc hc2
            · refine ab_iload_n d_MText_sign_73 rfl rfl ?_
              refine ab_bipush (v := 38) d_MText_sign_74 (by decide) ?_
              refine ab_icmp_ne (tgt := 84) d_MText_sign_76 (by decide) (fun q102 => ?_) (fun q102 => ?_)
              · refine ab_iload_n d_MText_sign_84 rfl rfl ?_
                refine ab_bipush (v := 124) d_MText_sign_85 (by decide) ?_
                refine ab_icmp_ne (tgt := 101) d_MText_sign_87 (by decide) (fun q103 => ?_) (fun q103 => ?_)
                · refine ab_iconst (v := 0) d_MText_sign_101 (by decide) ?_
                  exact (show mt_two c d = 0 from (by unfold mt_two; rw [if_neg (fun z => z q1)]; rw [if_pos q64]; rw [if_neg (fun z => z q65)]; rw [if_pos q97]; rw [if_pos q98]; rw [if_neg (fun z => z q99)]; rw [if_pos q102]; rw [if_pos q103]; try rfl)) ▸ sgB hl0 hc hc2
                · refine ab_iload_n d_MText_sign_90 rfl rfl ?_
                  refine ab_bipush (v := 124) d_MText_sign_91 (by decide) ?_
                  refine ab_icmp_ne (tgt := 101) d_MText_sign_93 (by decide) (fun q104 => ?_) (fun q104 => ?_)
                  · refine ab_iconst (v := 0) d_MText_sign_101 (by decide) ?_
                    exact (show mt_two c d = 0 from (by unfold mt_two; rw [if_neg (fun z => z q1)]; rw [if_pos q64]; rw [if_neg (fun z => z q65)]; rw [if_pos q97]; rw [if_pos q98]; rw [if_neg (fun z => z q99)]; rw [if_pos q102]; rw [if_neg (fun z => z q103)]; rw [if_pos q104]; try rfl)) ▸ sgB hl0 hc hc2
                  · refine ab_bipush (v := 10) d_MText_sign_96 (by decide) ?_
                    refine ab_goto (tgt := 102) d_MText_sign_98 (by decide) ?_
                    exact (show mt_two c d = 10 from (by unfold mt_two; rw [if_neg (fun z => z q1)]; rw [if_pos q64]; rw [if_neg (fun z => z q65)]; rw [if_pos q97]; rw [if_pos q98]; rw [if_neg (fun z => z q99)]; rw [if_pos q102]; rw [if_neg (fun z => z q103)]; rw [if_neg (fun z => z q104)]; try rfl)) ▸ sgB hl0 hc hc2
              · refine ab_bipush (v := 9) d_MText_sign_79 (by decide) ?_
                refine ab_goto (tgt := 102) d_MText_sign_81 (by decide) ?_
                exact (show mt_two c d = 9 from (by unfold mt_two; rw [if_neg (fun z => z q1)]; rw [if_pos q64]; rw [if_neg (fun z => z q65)]; rw [if_pos q97]; rw [if_pos q98]; rw [if_neg (fun z => z q99)]; rw [if_neg (fun z => z q102)]; try rfl)) ▸ sgB hl0 hc hc2
          · refine ab_iload_n d_MText_sign_56 rfl rfl ?_
            refine ab_bipush (v := 61) d_MText_sign_57 (by decide) ?_
            refine ab_icmp_ne (tgt := 67) d_MText_sign_59 (by decide) (fun q105 => ?_) (fun q105 => by exact absurd q105 (by assumption))
            refine ab_iload_n d_MText_sign_67 rfl rfl ?_
            refine ab_bipush (v := 38) d_MText_sign_68 (by decide) ?_
            refine ab_icmp_ne (tgt := 84) d_MText_sign_70 (by decide) (fun q106 => ?_) (fun q106 => ?_)
            · refine ab_iload_n d_MText_sign_84 rfl rfl ?_
              refine ab_bipush (v := 124) d_MText_sign_85 (by decide) ?_
              refine ab_icmp_ne (tgt := 101) d_MText_sign_87 (by decide) (fun q107 => ?_) (fun q107 => ?_)
              · refine ab_iconst (v := 0) d_MText_sign_101 (by decide) ?_
                exact (show mt_two c d = 0 from (by unfold mt_two; rw [if_neg (fun z => z q1)]; rw [if_pos q64]; rw [if_neg (fun z => z q65)]; rw [if_pos q97]; rw [if_neg (fun z => z q98)]; rw [if_pos q106]; rw [if_pos q107]; try rfl)) ▸ sgB hl0 hc hc2
              · refine ab_iload_n d_MText_sign_90 rfl rfl ?_
                refine ab_bipush (v := 124) d_MText_sign_91 (by decide) ?_
                refine ab_icmp_ne (tgt := 101) d_MText_sign_93 (by decide) (fun q108 => ?_) (fun q108 => ?_)
                · refine ab_iconst (v := 0) d_MText_sign_101 (by decide) ?_
                  exact (show mt_two c d = 0 from (by unfold mt_two; rw [if_neg (fun z => z q1)]; rw [if_pos q64]; rw [if_neg (fun z => z q65)]; rw [if_pos q97]; rw [if_neg (fun z => z q98)]; rw [if_pos q106]; rw [if_neg (fun z => z q107)]; rw [if_pos q108]; try rfl)) ▸ sgB hl0 hc hc2
                · refine ab_bipush (v := 10) d_MText_sign_96 (by decide) ?_
                  refine ab_goto (tgt := 102) d_MText_sign_98 (by decide) ?_
                  exact (show mt_two c d = 10 from (by unfold mt_two; rw [if_neg (fun z => z q1)]; rw [if_pos q64]; rw [if_neg (fun z => z q65)]; rw [if_pos q97]; rw [if_neg (fun z => z q98)]; rw [if_pos q106]; rw [if_neg (fun z => z q107)]; rw [if_neg (fun z => z q108)]; try rfl)) ▸ sgB hl0 hc hc2
            · refine ab_iload_n d_MText_sign_73 rfl rfl ?_
              refine ab_bipush (v := 38) d_MText_sign_74 (by decide) ?_
              refine ab_icmp_ne (tgt := 84) d_MText_sign_76 (by decide) (fun q109 => ?_) (fun q109 => ?_)
              · refine ab_iload_n d_MText_sign_84 rfl rfl ?_
                refine ab_bipush (v := 124) d_MText_sign_85 (by decide) ?_
                refine ab_icmp_ne (tgt := 101) d_MText_sign_87 (by decide) (fun q110 => ?_) (fun q110 => ?_)
                · refine ab_iconst (v := 0) d_MText_sign_101 (by decide) ?_
                  exact (show mt_two c d = 0 from (by unfold mt_two; rw [if_neg (fun z => z q1)]; rw [if_pos q64]; rw [if_neg (fun z => z q65)]; rw [if_pos q97]; rw [if_neg (fun z => z q98)]; rw [if_neg (fun z => z q106)]; rw [if_pos q109]; rw [if_pos q110]; try rfl)) ▸ sgB hl0 hc hc2
                · refine ab_iload_n d_MText_sign_90 rfl rfl ?_
                  refine ab_bipush (v := 124) d_MText_sign_91 (by decide) ?_
                  refine ab_icmp_ne (tgt := 101) d_MText_sign_93 (by decide) (fun q111 => ?_) (fun q111 => ?_)
                  · refine ab_iconst (v := 0) d_MText_sign_101 (by decide) ?_
                    exact (show mt_two c d = 0 from (by unfold mt_two; rw [if_neg (fun z => z q1)]; rw [if_pos q64]; rw [if_neg (fun z => z q65)]; rw [if_pos q97]; rw [if_neg (fun z => z q98)]; rw [if_neg (fun z => z q106)]; rw [if_pos q109]; rw [if_neg (fun z => z q110)]; rw [if_pos q111]; try rfl)) ▸ sgB hl0 hc hc2
                  · refine ab_bipush (v := 10) d_MText_sign_96 (by decide) ?_
                    refine ab_goto (tgt := 102) d_MText_sign_98 (by decide) ?_
                    exact (show mt_two c d = 10 from (by unfold mt_two; rw [if_neg (fun z => z q1)]; rw [if_pos q64]; rw [if_neg (fun z => z q65)]; rw [if_pos q97]; rw [if_neg (fun z => z q98)]; rw [if_neg (fun z => z q106)]; rw [if_pos q109]; rw [if_neg (fun z => z q110)]; rw [if_neg (fun z => z q111)]; try rfl)) ▸ sgB hl0 hc hc2
              · refine ab_bipush (v := 9) d_MText_sign_79 (by decide) ?_
                refine ab_goto (tgt := 102) d_MText_sign_81 (by decide) ?_
                exact (show mt_two c d = 9 from (by unfold mt_two; rw [if_neg (fun z => z q1)]; rw [if_pos q64]; rw [if_neg (fun z => z q65)]; rw [if_pos q97]; rw [if_neg (fun z => z q98)]; rw [if_neg (fun z => z q106)]; rw [if_neg (fun z => z q109)]; try rfl)) ▸ sgB hl0 hc hc2
        · refine ab_iload_n d_MText_sign_39 rfl rfl ?_
          refine ab_bipush (v := 61) d_MText_sign_40 (by decide) ?_
          refine ab_icmp_ne (tgt := 50) d_MText_sign_42 (by decide) (fun q112 => ?_) (fun q112 => by exact absurd q112 (by assumption))
          refine ab_iload_n d_MText_sign_50 rfl rfl ?_
          refine ab_bipush (v := 33) d_MText_sign_51 (by decide) ?_
          refine ab_icmp_ne (tgt := 67) d_MText_sign_53 (by decide) (fun q113 => ?_) (fun q113 => ?_)
          · refine ab_iload_n d_MText_sign_67 rfl rfl ?_
            refine ab_bipush (v := 38) d_MText_sign_68 (by decide) ?_
            refine ab_icmp_ne (tgt := 84) d_MText_sign_70 (by decide) (fun q114 => ?_) (fun q114 => ?_)
            · refine ab_iload_n d_MText_sign_84 rfl rfl ?_
              refine ab_bipush (v := 124) d_MText_sign_85 (by decide) ?_
              refine ab_icmp_ne (tgt := 101) d_MText_sign_87 (by decide) (fun q115 => ?_) (fun q115 => ?_)
              · refine ab_iconst (v := 0) d_MText_sign_101 (by decide) ?_
                exact (show mt_two c d = 0 from (by unfold mt_two; rw [if_neg (fun z => z q1)]; rw [if_pos q64]; rw [if_neg (fun z => z q65)]; rw [if_neg (fun z => z q97)]; rw [if_pos q113]; rw [if_pos q114]; rw [if_pos q115]; try rfl)) ▸ sgB hl0 hc hc2
              · refine ab_iload_n d_MText_sign_90 rfl rfl ?_
                refine ab_bipush (v := 124) d_MText_sign_91 (by decide) ?_
                refine ab_icmp_ne (tgt := 101) d_MText_sign_93 (by decide) (fun q116 => ?_) (fun q116 => ?_)
                · refine ab_iconst (v := 0) d_MText_sign_101 (by decide) ?_
                  exact (show mt_two c d = 0 from (by unfold mt_two; rw [if_neg (fun z => z q1)]; rw [if_pos q64]; rw [if_neg (fun z => z q65)]; rw [if_neg (fun z => z q97)]; rw [if_pos q113]; rw [if_pos q114]; rw [if_neg (fun z => z q115)]; rw [if_pos q116]; try rfl)) ▸ sgB hl0 hc hc2
                · refine ab_bipush (v := 10) d_MText_sign_96 (by decide) ?_
                  refine ab_goto (tgt := 102) d_MText_sign_98 (by decide) ?_
                  exact (show mt_two c d = 10 from (by unfold mt_two; rw [if_neg (fun z => z q1)]; rw [if_pos q64]; rw [if_neg (fun z => z q65)]; rw [if_neg (fun z => z q97)]; rw [if_pos q113]; rw [if_pos q114]; rw [if_neg (fun z => z q115)]; rw [if_neg (fun z => z q116)]; try rfl)) ▸ sgB hl0 hc hc2
            · refine ab_iload_n d_MText_sign_73 rfl rfl ?_
              refine ab_bipush (v := 38) d_MText_sign_74 (by decide) ?_
              refine ab_icmp_ne (tgt := 84) d_MText_sign_76 (by decide) (fun q117 => ?_) (fun q117 => ?_)
              · refine ab_iload_n d_MText_sign_84 rfl rfl ?_
                refine ab_bipush (v := 124) d_MText_sign_85 (by decide) ?_
                refine ab_icmp_ne (tgt := 101) d_MText_sign_87 (by decide) (fun q118 => ?_) (fun q118 => ?_)
                · refine ab_iconst (v := 0) d_MText_sign_101 (by decide) ?_
                  exact (show mt_two c d = 0 from (by unfold mt_two; rw [if_neg (fun z => z q1)]; rw [if_pos q64]; rw [if_neg (fun z => z q65)]; rw [if_neg (fun z => z q97)]; rw [if_pos q113]; rw [if_neg (fun z => z q114)]; rw [if_pos q117]; rw [if_pos q118]; try rfl)) ▸ sgB hl0 hc hc2
                · refine ab_iload_n d_MText_sign_90 rfl rfl ?_
                  refine ab_bipush (v := 124) d_MText_sign_91 (by decide) ?_
                  refine ab_icmp_ne (tgt := 101) d_MText_sign_93 (by decide) (fun q119 => ?_) (fun q119 => ?_)
                  · refine ab_iconst (v := 0) d_MText_sign_101 (by decide) ?_
                    exact (show mt_two c d = 0 from (by unfold mt_two; rw [if_neg (fun z => z q1)]; rw [if_pos q64]; rw [if_neg (fun z => z q65)]; rw [if_neg (fun z => z q97)]; rw [if_pos q113]; rw [if_neg (fun z => z q114)]; rw [if_pos q117]; rw [if_neg (fun z => z q118)]; rw [if_pos q119]; try rfl)) ▸ sgB hl0 hc hc2
                  · refine ab_bipush (v := 10) d_MText_sign_96 (by decide) ?_
                    refine ab_goto (tgt := 102) d_MText_sign_98 (by decide) ?_
                    exact (show mt_two c d = 10 from (by unfold mt_two; rw [if_neg (fun z => z q1)]; rw [if_pos q64]; rw [if_neg (fun z => z q65)]; rw [if_neg (fun z => z q97)]; rw [if_pos q113]; rw [if_neg (fun z => z q114)]; rw [if_pos q117]; rw [if_neg (fun z => z q118)]; rw [if_neg (fun z => z q119)]; try rfl)) ▸ sgB hl0 hc hc2
              · refine ab_bipush (v := 9) d_MText_sign_79 (by decide) ?_
                refine ab_goto (tgt := 102) d_MText_sign_81 (by decide) ?_
                exact (show mt_two c d = 9 from (by unfold mt_two; rw [if_neg (fun z => z q1)]; rw [if_pos q64]; rw [if_neg (fun z => z q65)]; rw [if_neg (fun z => z q97)]; rw [if_pos q113]; rw [if_neg (fun z => z q114)]; rw [if_neg (fun z => z q117)]; try rfl)) ▸ sgB hl0 hc hc2
          · refine ab_iload_n d_MText_sign_56 rfl rfl ?_
            refine ab_bipush (v := 61) d_MText_sign_57 (by decide) ?_
            refine ab_icmp_ne (tgt := 67) d_MText_sign_59 (by decide) (fun q120 => ?_) (fun q120 => by exact absurd q120 (by assumption))
            refine ab_iload_n d_MText_sign_67 rfl rfl ?_
            refine ab_bipush (v := 38) d_MText_sign_68 (by decide) ?_
            refine ab_icmp_ne (tgt := 84) d_MText_sign_70 (by decide) (fun q121 => ?_) (fun q121 => ?_)
            · refine ab_iload_n d_MText_sign_84 rfl rfl ?_
              refine ab_bipush (v := 124) d_MText_sign_85 (by decide) ?_
              refine ab_icmp_ne (tgt := 101) d_MText_sign_87 (by decide) (fun q122 => ?_) (fun q122 => ?_)
              · refine ab_iconst (v := 0) d_MText_sign_101 (by decide) ?_
                exact (show mt_two c d = 0 from (by unfold mt_two; rw [if_neg (fun z => z q1)]; rw [if_pos q64]; rw [if_neg (fun z => z q65)]; rw [if_neg (fun z => z q97)]; rw [if_neg (fun z => z q113)]; rw [if_pos q121]; rw [if_pos q122]; try rfl)) ▸ sgB hl0 hc hc2
              · refine ab_iload_n d_MText_sign_90 rfl rfl ?_
                refine ab_bipush (v := 124) d_MText_sign_91 (by decide) ?_
                refine ab_icmp_ne (tgt := 101) d_MText_sign_93 (by decide) (fun q123 => ?_) (fun q123 => ?_)
                · refine ab_iconst (v := 0) d_MText_sign_101 (by decide) ?_
                  exact (show mt_two c d = 0 from (by unfold mt_two; rw [if_neg (fun z => z q1)]; rw [if_pos q64]; rw [if_neg (fun z => z q65)]; rw [if_neg (fun z => z q97)]; rw [if_neg (fun z => z q113)]; rw [if_pos q121]; rw [if_neg (fun z => z q122)]; rw [if_pos q123]; try rfl)) ▸ sgB hl0 hc hc2
                · refine ab_bipush (v := 10) d_MText_sign_96 (by decide) ?_
                  refine ab_goto (tgt := 102) d_MText_sign_98 (by decide) ?_
                  exact (show mt_two c d = 10 from (by unfold mt_two; rw [if_neg (fun z => z q1)]; rw [if_pos q64]; rw [if_neg (fun z => z q65)]; rw [if_neg (fun z => z q97)]; rw [if_neg (fun z => z q113)]; rw [if_pos q121]; rw [if_neg (fun z => z q122)]; rw [if_neg (fun z => z q123)]; try rfl)) ▸ sgB hl0 hc hc2
            · refine ab_iload_n d_MText_sign_73 rfl rfl ?_
              refine ab_bipush (v := 38) d_MText_sign_74 (by decide) ?_
              refine ab_icmp_ne (tgt := 84) d_MText_sign_76 (by decide) (fun q124 => ?_) (fun q124 => ?_)
              · refine ab_iload_n d_MText_sign_84 rfl rfl ?_
                refine ab_bipush (v := 124) d_MText_sign_85 (by decide) ?_
                refine ab_icmp_ne (tgt := 101) d_MText_sign_87 (by decide) (fun q125 => ?_) (fun q125 => ?_)
                · refine ab_iconst (v := 0) d_MText_sign_101 (by decide) ?_
                  exact (show mt_two c d = 0 from (by unfold mt_two; rw [if_neg (fun z => z q1)]; rw [if_pos q64]; rw [if_neg (fun z => z q65)]; rw [if_neg (fun z => z q97)]; rw [if_neg (fun z => z q113)]; rw [if_neg (fun z => z q121)]; rw [if_pos q124]; rw [if_pos q125]; try rfl)) ▸ sgB hl0 hc hc2
                · refine ab_iload_n d_MText_sign_90 rfl rfl ?_
                  refine ab_bipush (v := 124) d_MText_sign_91 (by decide) ?_
                  refine ab_icmp_ne (tgt := 101) d_MText_sign_93 (by decide) (fun q126 => ?_) (fun q126 => ?_)
                  · refine ab_iconst (v := 0) d_MText_sign_101 (by decide) ?_
                    exact (show mt_two c d = 0 from (by unfold mt_two; rw [if_neg (fun z => z q1)]; rw [if_pos q64]; rw [if_neg (fun z => z q65)]; rw [if_neg (fun z => z q97)]; rw [if_neg (fun z => z q113)]; rw [if_neg (fun z => z q121)]; rw [if_pos q124]; rw [if_neg (fun z => z q125)]; rw [if_pos q126]; try rfl)) ▸ sgB hl0 hc hc2
                  · refine ab_bipush (v := 10) d_MText_sign_96 (by decide) ?_
                    refine ab_goto (tgt := 102) d_MText_sign_98 (by decide) ?_
                    exact (show mt_two c d = 10 from (by unfold mt_two; rw [if_neg (fun z => z q1)]; rw [if_pos q64]; rw [if_neg (fun z => z q65)]; rw [if_neg (fun z => z q97)]; rw [if_neg (fun z => z q113)]; rw [if_neg (fun z => z q121)]; rw [if_pos q124]; rw [if_neg (fun z => z q125)]; rw [if_neg (fun z => z q126)]; try rfl)) ▸ sgB hl0 hc hc2
              · refine ab_bipush (v := 9) d_MText_sign_79 (by decide) ?_
                refine ab_goto (tgt := 102) d_MText_sign_81 (by decide) ?_
                exact (show mt_two c d = 9 from (by unfold mt_two; rw [if_neg (fun z => z q1)]; rw [if_pos q64]; rw [if_neg (fun z => z q65)]; rw [if_neg (fun z => z q97)]; rw [if_neg (fun z => z q113)]; rw [if_neg (fun z => z q121)]; rw [if_neg (fun z => z q124)]; try rfl)) ▸ sgB hl0 hc hc2
    · refine ab_iconst (v := 5) d_MText_sign_12 (by decide) ?_
      refine ab_goto (tgt := 102) d_MText_sign_13 (by decide) ?_
      exact (show mt_two c d = 5 from (by unfold mt_two; rw [if_neg (fun z => z q1)]; rw [if_neg (fun z => z q64)]; try rfl)) ▸ sgB hl0 hc hc2
