def y_MText_sign : ab_Y := (⟨"WorldEngineModel$Text", "sign", "(III)I"⟩, prog_16_method_10_code, 6, (some FieldType.int), [])
theorem d_MText_sign_0 : decode y_MText_sign.2.1 0 = .ok (.iload_n 2, 1) := by decide +kernel
theorem d_MText_sign_1 : decode y_MText_sign.2.1 1 = .ok (.bipush 60, 2) := by decide +kernel
theorem d_MText_sign_3 : decode y_MText_sign.2.1 3 = .ok (.if_icmp .ne 13, 3) := by decide +kernel
theorem d_MText_sign_6 : decode y_MText_sign.2.1 6 = .ok (.iload_n 3, 1) := by decide +kernel
theorem d_MText_sign_7 : decode y_MText_sign.2.1 7 = .ok (.bipush 61, 2) := by decide +kernel
theorem d_MText_sign_9 : decode y_MText_sign.2.1 9 = .ok (.if_icmp .ne 7, 3) := by decide +kernel
theorem d_MText_sign_12 : decode y_MText_sign.2.1 12 = .ok (.iconst 5, 1) := by decide +kernel
theorem d_MText_sign_13 : decode y_MText_sign.2.1 13 = .ok (.goto 89, 3) := by decide +kernel
theorem d_MText_sign_16 : decode y_MText_sign.2.1 16 = .ok (.iload_n 2, 1) := by decide +kernel
theorem d_MText_sign_17 : decode y_MText_sign.2.1 17 = .ok (.bipush 62, 2) := by decide +kernel
theorem d_MText_sign_19 : decode y_MText_sign.2.1 19 = .ok (.if_icmp .ne 14, 3) := by decide +kernel
theorem d_MText_sign_22 : decode y_MText_sign.2.1 22 = .ok (.iload_n 3, 1) := by decide +kernel
theorem d_MText_sign_23 : decode y_MText_sign.2.1 23 = .ok (.bipush 61, 2) := by decide +kernel
theorem d_MText_sign_25 : decode y_MText_sign.2.1 25 = .ok (.if_icmp .ne 8, 3) := by decide +kernel
theorem d_MText_sign_28 : decode y_MText_sign.2.1 28 = .ok (.bipush 6, 2) := by decide +kernel
theorem d_MText_sign_30 : decode y_MText_sign.2.1 30 = .ok (.goto 72, 3) := by decide +kernel
theorem d_MText_sign_33 : decode y_MText_sign.2.1 33 = .ok (.iload_n 2, 1) := by decide +kernel
theorem d_MText_sign_34 : decode y_MText_sign.2.1 34 = .ok (.bipush 61, 2) := by decide +kernel
theorem d_MText_sign_36 : decode y_MText_sign.2.1 36 = .ok (.if_icmp .ne 14, 3) := by decide +kernel
theorem d_MText_sign_39 : decode y_MText_sign.2.1 39 = .ok (.iload_n 3, 1) := by decide +kernel
theorem d_MText_sign_40 : decode y_MText_sign.2.1 40 = .ok (.bipush 61, 2) := by decide +kernel
theorem d_MText_sign_42 : decode y_MText_sign.2.1 42 = .ok (.if_icmp .ne 8, 3) := by decide +kernel
theorem d_MText_sign_45 : decode y_MText_sign.2.1 45 = .ok (.bipush 7, 2) := by decide +kernel
theorem d_MText_sign_47 : decode y_MText_sign.2.1 47 = .ok (.goto 55, 3) := by decide +kernel
theorem d_MText_sign_50 : decode y_MText_sign.2.1 50 = .ok (.iload_n 2, 1) := by decide +kernel
theorem d_MText_sign_51 : decode y_MText_sign.2.1 51 = .ok (.bipush 33, 2) := by decide +kernel
theorem d_MText_sign_53 : decode y_MText_sign.2.1 53 = .ok (.if_icmp .ne 14, 3) := by decide +kernel
theorem d_MText_sign_56 : decode y_MText_sign.2.1 56 = .ok (.iload_n 3, 1) := by decide +kernel
theorem d_MText_sign_57 : decode y_MText_sign.2.1 57 = .ok (.bipush 61, 2) := by decide +kernel
theorem d_MText_sign_59 : decode y_MText_sign.2.1 59 = .ok (.if_icmp .ne 8, 3) := by decide +kernel
theorem d_MText_sign_62 : decode y_MText_sign.2.1 62 = .ok (.bipush 8, 2) := by decide +kernel
theorem d_MText_sign_64 : decode y_MText_sign.2.1 64 = .ok (.goto 38, 3) := by decide +kernel
theorem d_MText_sign_67 : decode y_MText_sign.2.1 67 = .ok (.iload_n 2, 1) := by decide +kernel
theorem d_MText_sign_68 : decode y_MText_sign.2.1 68 = .ok (.bipush 38, 2) := by decide +kernel
theorem d_MText_sign_70 : decode y_MText_sign.2.1 70 = .ok (.if_icmp .ne 14, 3) := by decide +kernel
theorem d_MText_sign_73 : decode y_MText_sign.2.1 73 = .ok (.iload_n 3, 1) := by decide +kernel
theorem d_MText_sign_74 : decode y_MText_sign.2.1 74 = .ok (.bipush 38, 2) := by decide +kernel
theorem d_MText_sign_76 : decode y_MText_sign.2.1 76 = .ok (.if_icmp .ne 8, 3) := by decide +kernel
theorem d_MText_sign_79 : decode y_MText_sign.2.1 79 = .ok (.bipush 9, 2) := by decide +kernel
theorem d_MText_sign_81 : decode y_MText_sign.2.1 81 = .ok (.goto 21, 3) := by decide +kernel
theorem d_MText_sign_84 : decode y_MText_sign.2.1 84 = .ok (.iload_n 2, 1) := by decide +kernel
theorem d_MText_sign_85 : decode y_MText_sign.2.1 85 = .ok (.bipush 124, 2) := by decide +kernel
theorem d_MText_sign_87 : decode y_MText_sign.2.1 87 = .ok (.if_icmp .ne 14, 3) := by decide +kernel
theorem d_MText_sign_90 : decode y_MText_sign.2.1 90 = .ok (.iload_n 3, 1) := by decide +kernel
theorem d_MText_sign_91 : decode y_MText_sign.2.1 91 = .ok (.bipush 124, 2) := by decide +kernel
theorem d_MText_sign_93 : decode y_MText_sign.2.1 93 = .ok (.if_icmp .ne 8, 3) := by decide +kernel
theorem d_MText_sign_96 : decode y_MText_sign.2.1 96 = .ok (.bipush 10, 2) := by decide +kernel
theorem d_MText_sign_98 : decode y_MText_sign.2.1 98 = .ok (.goto 4, 3) := by decide +kernel
theorem d_MText_sign_101 : decode y_MText_sign.2.1 101 = .ok (.iconst 0, 1) := by decide +kernel
theorem d_MText_sign_102 : decode y_MText_sign.2.1 102 = .ok (.istore 4, 2) := by decide +kernel
theorem d_MText_sign_104 : decode y_MText_sign.2.1 104 = .ok (.iload_n 2, 1) := by decide +kernel
theorem d_MText_sign_105 : decode y_MText_sign.2.1 105 = .ok (.bipush 123, 2) := by decide +kernel
theorem d_MText_sign_107 : decode y_MText_sign.2.1 107 = .ok (.if_icmp .eq 93, 3) := by decide +kernel
theorem d_MText_sign_110 : decode y_MText_sign.2.1 110 = .ok (.iload_n 2, 1) := by decide +kernel
theorem d_MText_sign_111 : decode y_MText_sign.2.1 111 = .ok (.bipush 125, 2) := by decide +kernel
theorem d_MText_sign_113 : decode y_MText_sign.2.1 113 = .ok (.if_icmp .eq 87, 3) := by decide +kernel
theorem d_MText_sign_116 : decode y_MText_sign.2.1 116 = .ok (.iload_n 2, 1) := by decide +kernel
theorem d_MText_sign_117 : decode y_MText_sign.2.1 117 = .ok (.bipush 40, 2) := by decide +kernel
theorem d_MText_sign_119 : decode y_MText_sign.2.1 119 = .ok (.if_icmp .eq 81, 3) := by decide +kernel
theorem d_MText_sign_122 : decode y_MText_sign.2.1 122 = .ok (.iload_n 2, 1) := by decide +kernel
theorem d_MText_sign_123 : decode y_MText_sign.2.1 123 = .ok (.bipush 41, 2) := by decide +kernel
theorem d_MText_sign_125 : decode y_MText_sign.2.1 125 = .ok (.if_icmp .eq 75, 3) := by decide +kernel
theorem d_MText_sign_128 : decode y_MText_sign.2.1 128 = .ok (.iload_n 2, 1) := by decide +kernel
theorem d_MText_sign_129 : decode y_MText_sign.2.1 129 = .ok (.bipush 44, 2) := by decide +kernel
theorem d_MText_sign_131 : decode y_MText_sign.2.1 131 = .ok (.if_icmp .eq 69, 3) := by decide +kernel
theorem d_MText_sign_134 : decode y_MText_sign.2.1 134 = .ok (.iload_n 2, 1) := by decide +kernel
theorem d_MText_sign_135 : decode y_MText_sign.2.1 135 = .ok (.bipush 59, 2) := by decide +kernel
theorem d_MText_sign_137 : decode y_MText_sign.2.1 137 = .ok (.if_icmp .eq 63, 3) := by decide +kernel
theorem d_MText_sign_140 : decode y_MText_sign.2.1 140 = .ok (.iload_n 2, 1) := by decide +kernel
theorem d_MText_sign_141 : decode y_MText_sign.2.1 141 = .ok (.bipush 46, 2) := by decide +kernel
theorem d_MText_sign_143 : decode y_MText_sign.2.1 143 = .ok (.if_icmp .eq 57, 3) := by decide +kernel
theorem d_MText_sign_146 : decode y_MText_sign.2.1 146 = .ok (.iload_n 2, 1) := by decide +kernel
theorem d_MText_sign_147 : decode y_MText_sign.2.1 147 = .ok (.bipush 61, 2) := by decide +kernel
theorem d_MText_sign_149 : decode y_MText_sign.2.1 149 = .ok (.if_icmp .eq 51, 3) := by decide +kernel
theorem d_MText_sign_152 : decode y_MText_sign.2.1 152 = .ok (.iload_n 2, 1) := by decide +kernel
theorem d_MText_sign_153 : decode y_MText_sign.2.1 153 = .ok (.bipush 43, 2) := by decide +kernel
theorem d_MText_sign_155 : decode y_MText_sign.2.1 155 = .ok (.if_icmp .eq 45, 3) := by decide +kernel
theorem d_MText_sign_158 : decode y_MText_sign.2.1 158 = .ok (.iload_n 2, 1) := by decide +kernel
theorem d_MText_sign_159 : decode y_MText_sign.2.1 159 = .ok (.bipush 45, 2) := by decide +kernel
theorem d_MText_sign_161 : decode y_MText_sign.2.1 161 = .ok (.if_icmp .eq 39, 3) := by decide +kernel
theorem d_MText_sign_164 : decode y_MText_sign.2.1 164 = .ok (.iload_n 2, 1) := by decide +kernel
theorem d_MText_sign_165 : decode y_MText_sign.2.1 165 = .ok (.bipush 42, 2) := by decide +kernel
theorem d_MText_sign_167 : decode y_MText_sign.2.1 167 = .ok (.if_icmp .eq 33, 3) := by decide +kernel
theorem d_MText_sign_170 : decode y_MText_sign.2.1 170 = .ok (.iload_n 2, 1) := by decide +kernel
theorem d_MText_sign_171 : decode y_MText_sign.2.1 171 = .ok (.bipush 47, 2) := by decide +kernel
theorem d_MText_sign_173 : decode y_MText_sign.2.1 173 = .ok (.if_icmp .eq 27, 3) := by decide +kernel
theorem d_MText_sign_176 : decode y_MText_sign.2.1 176 = .ok (.iload_n 2, 1) := by decide +kernel
theorem d_MText_sign_177 : decode y_MText_sign.2.1 177 = .ok (.bipush 37, 2) := by decide +kernel
theorem d_MText_sign_179 : decode y_MText_sign.2.1 179 = .ok (.if_icmp .eq 21, 3) := by decide +kernel
theorem d_MText_sign_182 : decode y_MText_sign.2.1 182 = .ok (.iload_n 2, 1) := by decide +kernel
theorem d_MText_sign_183 : decode y_MText_sign.2.1 183 = .ok (.bipush 60, 2) := by decide +kernel
theorem d_MText_sign_185 : decode y_MText_sign.2.1 185 = .ok (.if_icmp .eq 15, 3) := by decide +kernel
theorem d_MText_sign_188 : decode y_MText_sign.2.1 188 = .ok (.iload_n 2, 1) := by decide +kernel
theorem d_MText_sign_189 : decode y_MText_sign.2.1 189 = .ok (.bipush 62, 2) := by decide +kernel
theorem d_MText_sign_191 : decode y_MText_sign.2.1 191 = .ok (.if_icmp .eq 9, 3) := by decide +kernel
theorem d_MText_sign_194 : decode y_MText_sign.2.1 194 = .ok (.iload_n 2, 1) := by decide +kernel
theorem d_MText_sign_195 : decode y_MText_sign.2.1 195 = .ok (.bipush 33, 2) := by decide +kernel
theorem d_MText_sign_197 : decode y_MText_sign.2.1 197 = .ok (.if_icmp .ne 7, 3) := by decide +kernel
theorem d_MText_sign_200 : decode y_MText_sign.2.1 200 = .ok (.iconst 1, 1) := by decide +kernel
theorem d_MText_sign_201 : decode y_MText_sign.2.1 201 = .ok (.goto 4, 3) := by decide +kernel
theorem d_MText_sign_204 : decode y_MText_sign.2.1 204 = .ok (.iconst 0, 1) := by decide +kernel
theorem d_MText_sign_205 : decode y_MText_sign.2.1 205 = .ok (.istore 5, 2) := by decide +kernel
theorem d_MText_sign_207 : decode y_MText_sign.2.1 207 = .ok (.aload_n 0, 1) := by decide +kernel
theorem d_MText_sign_208 : decode y_MText_sign.2.1 208 = .ok (.iload 4, 2) := by decide +kernel
theorem d_MText_sign_210 : decode y_MText_sign.2.1 210 = .ok (.ifCond .le 8, 3) := by decide +kernel
theorem d_MText_sign_213 : decode y_MText_sign.2.1 213 = .ok (.iload 4, 2) := by decide +kernel
theorem d_MText_sign_215 : decode y_MText_sign.2.1 215 = .ok (.goto 13, 3) := by decide +kernel
theorem d_MText_sign_218 : decode y_MText_sign.2.1 218 = .ok (.iload 5, 2) := by decide +kernel
theorem d_MText_sign_220 : decode y_MText_sign.2.1 220 = .ok (.ifCond .eq 7, 3) := by decide +kernel
theorem d_MText_sign_223 : decode y_MText_sign.2.1 223 = .ok (.iload_n 2, 1) := by decide +kernel
theorem d_MText_sign_224 : decode y_MText_sign.2.1 224 = .ok (.goto 4, 3) := by decide +kernel
theorem d_MText_sign_227 : decode y_MText_sign.2.1 227 = .ok (.iconst 4, 1) := by decide +kernel
theorem d_MText_sign_228 : decode y_MText_sign.2.1 228 = .ok (.iload_n 1, 1) := by decide +kernel
theorem d_MText_sign_229 : decode y_MText_sign.2.1 229 = .ok (.iload_n 1, 1) := by decide +kernel
theorem d_MText_sign_230 : decode y_MText_sign.2.1 230 = .ok (.iload 4, 2) := by decide +kernel
theorem d_MText_sign_232 : decode y_MText_sign.2.1 232 = .ok (.ifCond .le 7, 3) := by decide +kernel
theorem d_MText_sign_235 : decode y_MText_sign.2.1 235 = .ok (.iconst 2, 1) := by decide +kernel
theorem d_MText_sign_236 : decode y_MText_sign.2.1 236 = .ok (.goto 4, 3) := by decide +kernel
theorem d_MText_sign_239 : decode y_MText_sign.2.1 239 = .ok (.iconst 1, 1) := by decide +kernel
theorem d_MText_sign_240 : decode y_MText_sign.2.1 240 = .ok (.iadd, 1) := by decide +kernel
theorem d_MText_sign_241 : decode y_MText_sign.2.1 241 = .ok (.invokevirtual 118, 3) := by decide +kernel
theorem d_MText_sign_244 : decode y_MText_sign.2.1 244 = .ok (.iload_n 1, 1) := by decide +kernel
theorem d_MText_sign_245 : decode y_MText_sign.2.1 245 = .ok (.iload 4, 2) := by decide +kernel
theorem d_MText_sign_247 : decode y_MText_sign.2.1 247 = .ok (.ifCond .le 7, 3) := by decide +kernel
theorem d_MText_sign_250 : decode y_MText_sign.2.1 250 = .ok (.iconst 2, 1) := by decide +kernel
theorem d_MText_sign_251 : decode y_MText_sign.2.1 251 = .ok (.goto 4, 3) := by decide +kernel
theorem d_MText_sign_254 : decode y_MText_sign.2.1 254 = .ok (.iconst 1, 1) := by decide +kernel
theorem d_MText_sign_255 : decode y_MText_sign.2.1 255 = .ok (.iadd, 1) := by decide +kernel
theorem d_MText_sign_256 : decode y_MText_sign.2.1 256 = .ok (.ireturn, 1) := by decide +kernel
theorem s_MText_sign : ab_Stat y_MText_sign 3 := ⟨(k10 151 rfl rfl), (k1 20 rfl rfl), ⟨by decide, by decide⟩, by decide +kernel⟩
theorem i_MText_sign : Cond.instanceMethod y_MText_sign.1 ∈ ab_T := (k10 150 rfl rfl)
theorem v_MText_sign : Cond.selects "WorldEngineModel$Text" y_MText_sign.1 y_MText_sign.1 ∈ ab_T := ab_s (List.mem_of_getElem? (i := 113) rfl) rfl
def B_MText_sign_240 (N : Nat) (p0 : Nat) (p1 : Int32) (p2 : Int32) (p3 : Int32) (l4 : Int32) (w0 : Nat) (w1 : Int32) (w2 : Int32) (w3 : Int32) (w4 : Int32) (H : Hp) : Option (Int32 × Hp) :=
    ck (H.sh[w0]? = some (14, 0)) <|
    bC (F_MText_token N w0 w1 w2 (w3 + w4) H) fun v13 H14 =>
    if l4 ≤ (0 : Int32) then
    some (p1 + (1 : Int32), H14)
    else
    some (p1 + (2 : Int32), H14)
set_option maxRecDepth 20000 in
set_option maxHeartbeats 2000000 in
theorem mB_MText_sign_240 {N : Nat} {p0 : Nat} {p1 : Int32} {p2 : Int32} {p3 : Int32} {l4 : Int32} {w0 : Nat} {w1 : Int32} {w2 : Int32} {w3 : Int32} {w4 : Int32} {H : Hp} {r : Int32 × Hp} (hF : B_MText_sign_240 N p0 p1 p2 p3 l4 w0 w1 w2 w3 w4 H = some r) : Sa H r.2 := by
  unfold B_MText_sign_240 at hF
  have hm := Sa.rf H
  obtain ⟨q16, hG⟩ := ck_s hF; clear hF
  obtain ⟨v18, H19, z17, hF⟩ := bC_s hG; clear hG
  replace hm : Sa H H19 := hm.tr (m_MText_token z17)
  rcases ite_s hF with ⟨q_3, hG⟩ | ⟨q_3, hG⟩
  · clear hF
    have hr := Option.some.inj hG; subst hr
    exact hm
  · clear hF
    have hr := Option.some.inj hG; subst hr
    exact hm
set_option maxRecDepth 20000 in
set_option maxHeartbeats 2000000 in
theorem kB_MText_sign_240 {N : Nat} {p0 : Nat} {p1 : Int32} {p2 : Int32} {p3 : Int32} {l4 : Int32} {w0 : Nat} {w1 : Int32} {w2 : Int32} {w3 : Int32} {w4 : Int32} {H : Hp} {r : Int32 × Hp} (hF : B_MText_sign_240 N p0 p1 p2 p3 l4 w0 w1 w2 w3 w4 H = some r) : ab_V y_MText_sign { frames := 1, cells := 0, slots := 0, locals := 23 } (po (.returned (some (.int r.1))) r.2) 0 0 0 0 240 [some (.ref p0), some (.int p1), some (.int p2), some (.int p3), some (.int l4), none] [.int w4, .int w3, .int w2, .int w1, .ref w0] (hpw H) := by
  unfold B_MText_sign_240 at hF
  refine ab_iadd d_MText_sign_240 ?_
  obtain ⟨q11, hG⟩ := ck_s hF; clear hF
  obtain ⟨v13, H14, z12, hF⟩ := bC_s hG; clear hG
  refine hp_callV_v (H1 := H14) (As := [.int w1, .int w2, .int (w3 + w4)]) (rest := []) d_MText_sign_241 (k_MText_token z12) (ab_mkC s_MText_token (Nat.le_of_ble_eq_true rfl) (Nat.le_of_ble_eq_true rfl) (Nat.le_refl 0) (Nat.le_refl 0)) (k10 120 rfl rfl) i_MText_token v_MText_token q11 (by decide) rfl rfl (Nat.le_of_ble_eq_true rfl) ?_
  have s_1 : Sa H H14 := (m_MText_token z12)
  refine ab_iload_n d_MText_sign_244 rfl rfl ?_
  refine ab_iload d_MText_sign_245 rfl ?_
  refine ab_if_le (tgt := 254) d_MText_sign_247 (by decide) (fun q15 => ?_) (fun q15 => ?_)
  · rw [if_pos q15] at hF
    refine ab_iconst (v := 1) d_MText_sign_254 (by decide) ?_
    refine ab_iadd d_MText_sign_255 ?_
    exact ab_iret d_MText_sign_256 rfl (Nat.le_refl _) (Nat.le_refl _) (by have hr := Option.some.inj hF; subst hr; exact ⟨rfl, rfl⟩)
  · rw [if_neg q15] at hF
    refine ab_iconst (v := 2) d_MText_sign_250 (by decide) ?_
    refine ab_goto (tgt := 255) d_MText_sign_251 (by decide) ?_
    refine ab_iadd d_MText_sign_255 ?_
    exact ab_iret d_MText_sign_256 rfl (Nat.le_refl _) (Nat.le_refl _) (by have hr := Option.some.inj hF; subst hr; exact ⟨rfl, rfl⟩)
def B_MText_sign_228 (N : Nat) (p0 : Nat) (p1 : Int32) (p2 : Int32) (p3 : Int32) (l4 : Int32) (w0 : Nat) (w1 : Int32) (H : Hp) : Option (Int32 × Hp) :=
    if l4 ≤ (0 : Int32) then
    B_MText_sign_240 N p0 p1 p2 p3 l4 w0 w1 p1 p1 1 H
    else
    B_MText_sign_240 N p0 p1 p2 p3 l4 w0 w1 p1 p1 2 H
set_option maxRecDepth 20000 in
set_option maxHeartbeats 2000000 in
theorem mB_MText_sign_228 {N : Nat} {p0 : Nat} {p1 : Int32} {p2 : Int32} {p3 : Int32} {l4 : Int32} {w0 : Nat} {w1 : Int32} {H : Hp} {r : Int32 × Hp} (hF : B_MText_sign_228 N p0 p1 p2 p3 l4 w0 w1 H = some r) : Sa H r.2 := by
  unfold B_MText_sign_228 at hF
  have hm := Sa.rf H
  rcases ite_s hF with ⟨q_4, hG⟩ | ⟨q_4, hG⟩
  · clear hF
    exact hm.tr (mB_MText_sign_240 hG)
  · clear hF
    exact hm.tr (mB_MText_sign_240 hG)
set_option maxRecDepth 20000 in
set_option maxHeartbeats 2000000 in
theorem kB_MText_sign_228 {N : Nat} {p0 : Nat} {p1 : Int32} {p2 : Int32} {p3 : Int32} {l4 : Int32} {w0 : Nat} {w1 : Int32} {H : Hp} {r : Int32 × Hp} (hF : B_MText_sign_228 N p0 p1 p2 p3 l4 w0 w1 H = some r) : ab_V y_MText_sign { frames := 1, cells := 0, slots := 0, locals := 23 } (po (.returned (some (.int r.1))) r.2) 0 0 0 0 228 [some (.ref p0), some (.int p1), some (.int p2), some (.int p3), some (.int l4), none] [.int w1, .ref w0] (hpw H) := by
  unfold B_MText_sign_228 at hF
  refine ab_iload_n d_MText_sign_228 rfl rfl ?_
  refine ab_iload_n d_MText_sign_229 rfl rfl ?_
  refine ab_iload d_MText_sign_230 rfl ?_
  refine ab_if_le (tgt := 239) d_MText_sign_232 (by decide) (fun q10 => ?_) (fun q10 => ?_)
  · rw [if_pos q10] at hF
    refine ab_iconst (v := 1) d_MText_sign_239 (by decide) ?_
    exact kB_MText_sign_240 hF
  · rw [if_neg q10] at hF
    refine ab_iconst (v := 2) d_MText_sign_235 (by decide) ?_
    refine ab_goto (tgt := 240) d_MText_sign_236 (by decide) ?_
    exact kB_MText_sign_240 hF
def B_MText_sign_205 (N : Nat) (p0 : Nat) (p1 : Int32) (p2 : Int32) (p3 : Int32) (l4 : Int32) (w0 : Int32) (H : Hp) : Option (Int32 × Hp) :=
    if l4 ≤ (0 : Int32) then
    if w0 = (0 : Int32) then
    B_MText_sign_228 N p0 p1 p2 p3 l4 p0 4 H
    else
    B_MText_sign_228 N p0 p1 p2 p3 l4 p0 p2 H
    else
    B_MText_sign_228 N p0 p1 p2 p3 l4 p0 l4 H
set_option maxRecDepth 20000 in
set_option maxHeartbeats 2000000 in
theorem mB_MText_sign_205 {N : Nat} {p0 : Nat} {p1 : Int32} {p2 : Int32} {p3 : Int32} {l4 : Int32} {w0 : Int32} {H : Hp} {r : Int32 × Hp} (hF : B_MText_sign_205 N p0 p1 p2 p3 l4 w0 H = some r) : Sa H r.2 := by
  unfold B_MText_sign_205 at hF
  have hm := Sa.rf H
  rcases ite_s hF with ⟨q_5, hG⟩ | ⟨q_5, hG⟩
  · clear hF
    rcases ite_s hG with ⟨q_6, hF⟩ | ⟨q_6, hF⟩
    · clear hG
      exact hm.tr (mB_MText_sign_228 hF)
    · clear hG
      exact hm.tr (mB_MText_sign_228 hF)
  · clear hF
    exact hm.tr (mB_MText_sign_228 hG)
set_option maxRecDepth 20000 in
set_option maxHeartbeats 2000000 in
theorem kB_MText_sign_205 {N : Nat} {p0 : Nat} {p1 : Int32} {p2 : Int32} {p3 : Int32} {l4 : Int32} {w0 : Int32} {H : Hp} {r : Int32 × Hp} (hF : B_MText_sign_205 N p0 p1 p2 p3 l4 w0 H = some r) : ab_V y_MText_sign { frames := 1, cells := 0, slots := 0, locals := 23 } (po (.returned (some (.int r.1))) r.2) 0 0 0 0 205 [some (.ref p0), some (.int p1), some (.int p2), some (.int p3), some (.int l4), none] [.int w0] (hpw H) := by
  unfold B_MText_sign_205 at hF
  refine ab_istore (lv' := [some (.ref p0), some (.int p1), some (.int p2), some (.int p3), some (.int l4), some (.int w0)]) d_MText_sign_205 (by decide) rfl ?_
  refine ab_aload_n d_MText_sign_207 rfl rfl rfl ?_
  refine ab_iload d_MText_sign_208 rfl ?_
  refine ab_if_le (tgt := 218) d_MText_sign_210 (by decide) (fun q8 => ?_) (fun q8 => ?_)
  · rw [if_pos q8] at hF
    refine ab_iload d_MText_sign_218 rfl ?_
    refine ab_if_eq (tgt := 227) d_MText_sign_220 (by decide) (fun q9 => ?_) (fun q9 => ?_)
    · rw [if_pos q9] at hF
      refine ab_iconst (v := 4) d_MText_sign_227 (by decide) ?_
      refine ab_le (lv' := [some (.ref p0), some (.int p1), some (.int p2), some (.int p3), some (.int l4), none]) ⟨rfl, ⟨rfl, ⟨rfl, ⟨rfl, ⟨rfl, trivial⟩⟩⟩⟩⟩ ?_
      exact kB_MText_sign_228 hF
    · rw [if_neg q9] at hF
      refine ab_iload_n d_MText_sign_223 rfl rfl ?_
      refine ab_goto (tgt := 228) d_MText_sign_224 (by decide) ?_
      refine ab_le (lv' := [some (.ref p0), some (.int p1), some (.int p2), some (.int p3), some (.int l4), none]) ⟨rfl, ⟨rfl, ⟨rfl, ⟨rfl, ⟨rfl, trivial⟩⟩⟩⟩⟩ ?_
      exact kB_MText_sign_228 hF
  · rw [if_neg q8] at hF
    refine ab_iload d_MText_sign_213 rfl ?_
    refine ab_goto (tgt := 228) d_MText_sign_215 (by decide) ?_
    refine ab_le (lv' := [some (.ref p0), some (.int p1), some (.int p2), some (.int p3), some (.int l4), none]) ⟨rfl, ⟨rfl, ⟨rfl, ⟨rfl, ⟨rfl, trivial⟩⟩⟩⟩⟩ ?_
    exact kB_MText_sign_228 hF
def B_MText_sign_200 (N : Nat) (p0 : Nat) (p1 : Int32) (p2 : Int32) (p3 : Int32) (l4 : Int32) (H : Hp) : Option (Int32 × Hp) :=
    B_MText_sign_205 N p0 p1 p2 p3 l4 1 H
set_option maxRecDepth 20000 in
set_option maxHeartbeats 2000000 in
theorem mB_MText_sign_200 {N : Nat} {p0 : Nat} {p1 : Int32} {p2 : Int32} {p3 : Int32} {l4 : Int32} {H : Hp} {r : Int32 × Hp} (hF : B_MText_sign_200 N p0 p1 p2 p3 l4 H = some r) : Sa H r.2 := by
  unfold B_MText_sign_200 at hF
  have hm := Sa.rf H
  exact hm.tr (mB_MText_sign_205 hF)
set_option maxRecDepth 20000 in
set_option maxHeartbeats 2000000 in
theorem kB_MText_sign_200 {N : Nat} {p0 : Nat} {p1 : Int32} {p2 : Int32} {p3 : Int32} {l4 : Int32} {H : Hp} {r : Int32 × Hp} (hF : B_MText_sign_200 N p0 p1 p2 p3 l4 H = some r) : ab_V y_MText_sign { frames := 1, cells := 0, slots := 0, locals := 23 } (po (.returned (some (.int r.1))) r.2) 0 0 0 0 200 [some (.ref p0), some (.int p1), some (.int p2), some (.int p3), some (.int l4), none] [] (hpw H) := by
  unfold B_MText_sign_200 at hF
  refine ab_iconst (v := 1) d_MText_sign_200 (by decide) ?_
  refine ab_goto (tgt := 205) d_MText_sign_201 (by decide) ?_
  exact kB_MText_sign_205 hF
def B_MText_sign_102 (N : Nat) (p0 : Nat) (p1 : Int32) (p2 : Int32) (p3 : Int32) (w0 : Int32) (H : Hp) : Option (Int32 × Hp) :=
    if p2 = (123 : Int32) then
    B_MText_sign_200 N p0 p1 p2 p3 w0 H
    else
    if p2 = (125 : Int32) then
    B_MText_sign_200 N p0 p1 p2 p3 w0 H
    else
    if p2 = (40 : Int32) then
    B_MText_sign_200 N p0 p1 p2 p3 w0 H
    else
    if p2 = (41 : Int32) then
    B_MText_sign_200 N p0 p1 p2 p3 w0 H
    else
    if p2 = (44 : Int32) then
    B_MText_sign_200 N p0 p1 p2 p3 w0 H
    else
    if p2 = (59 : Int32) then
    B_MText_sign_200 N p0 p1 p2 p3 w0 H
    else
    if p2 = (46 : Int32) then
    B_MText_sign_200 N p0 p1 p2 p3 w0 H
    else
    if p2 = (61 : Int32) then
    B_MText_sign_200 N p0 p1 p2 p3 w0 H
    else
    if p2 = (43 : Int32) then
    B_MText_sign_200 N p0 p1 p2 p3 w0 H
    else
    if p2 = (45 : Int32) then
    B_MText_sign_200 N p0 p1 p2 p3 w0 H
    else
    if p2 = (42 : Int32) then
    B_MText_sign_200 N p0 p1 p2 p3 w0 H
    else
    if p2 = (47 : Int32) then
    B_MText_sign_200 N p0 p1 p2 p3 w0 H
    else
    if p2 = (37 : Int32) then
    B_MText_sign_200 N p0 p1 p2 p3 w0 H
    else
    if p2 = (60 : Int32) then
    B_MText_sign_200 N p0 p1 p2 p3 w0 H
    else
    if p2 = (62 : Int32) then
    B_MText_sign_200 N p0 p1 p2 p3 w0 H
    else
    if p2 = (33 : Int32) then
    B_MText_sign_200 N p0 p1 p2 p3 w0 H
    else
    B_MText_sign_205 N p0 p1 p2 p3 w0 0 H
set_option maxRecDepth 20000 in
set_option maxHeartbeats 2000000 in
theorem mB_MText_sign_102 {N : Nat} {p0 : Nat} {p1 : Int32} {p2 : Int32} {p3 : Int32} {w0 : Int32} {H : Hp} {r : Int32 × Hp} (hF : B_MText_sign_102 N p0 p1 p2 p3 w0 H = some r) : Sa H r.2 := by
  unfold B_MText_sign_102 at hF
  have hm := Sa.rf H
  rcases ite_s hF with ⟨q_7, hG⟩ | ⟨q_7, hG⟩
  · clear hF
    exact hm.tr (mB_MText_sign_200 hG)
  · clear hF
    rcases ite_s hG with ⟨q_8, hF⟩ | ⟨q_8, hF⟩
    · clear hG
      exact hm.tr (mB_MText_sign_200 hF)
    · clear hG
      rcases ite_s hF with ⟨q_9, hG⟩ | ⟨q_9, hG⟩
      · clear hF
        exact hm.tr (mB_MText_sign_200 hG)
      · clear hF
        rcases ite_s hG with ⟨q_10, hF⟩ | ⟨q_10, hF⟩
        · clear hG
          exact hm.tr (mB_MText_sign_200 hF)
        · clear hG
          rcases ite_s hF with ⟨q_11, hG⟩ | ⟨q_11, hG⟩
          · clear hF
            exact hm.tr (mB_MText_sign_200 hG)
          · clear hF
            rcases ite_s hG with ⟨q_12, hF⟩ | ⟨q_12, hF⟩
            · clear hG
              exact hm.tr (mB_MText_sign_200 hF)
            · clear hG
              rcases ite_s hF with ⟨q_13, hG⟩ | ⟨q_13, hG⟩
              · clear hF
                exact hm.tr (mB_MText_sign_200 hG)
              · clear hF
                rcases ite_s hG with ⟨q_14, hF⟩ | ⟨q_14, hF⟩
                · clear hG
                  exact hm.tr (mB_MText_sign_200 hF)
                · clear hG
                  rcases ite_s hF with ⟨q_15, hG⟩ | ⟨q_15, hG⟩
                  · clear hF
                    exact hm.tr (mB_MText_sign_200 hG)
                  · clear hF
                    rcases ite_s hG with ⟨q_16, hF⟩ | ⟨q_16, hF⟩
                    · clear hG
                      exact hm.tr (mB_MText_sign_200 hF)
                    · clear hG
                      rcases ite_s hF with ⟨q_17, hG⟩ | ⟨q_17, hG⟩
                      · clear hF
                        exact hm.tr (mB_MText_sign_200 hG)
                      · clear hF
                        rcases ite_s hG with ⟨q_18, hF⟩ | ⟨q_18, hF⟩
                        · clear hG
                          exact hm.tr (mB_MText_sign_200 hF)
                        · clear hG
                          rcases ite_s hF with ⟨q_19, hG⟩ | ⟨q_19, hG⟩
                          · clear hF
                            exact hm.tr (mB_MText_sign_200 hG)
                          · clear hF
                            rcases ite_s hG with ⟨q_20, hF⟩ | ⟨q_20, hF⟩
                            · clear hG
                              exact hm.tr (mB_MText_sign_200 hF)
                            · clear hG
                              rcases ite_s hF with ⟨q_21, hG⟩ | ⟨q_21, hG⟩
                              · clear hF
                                exact hm.tr (mB_MText_sign_200 hG)
                              · clear hF
                                rcases ite_s hG with ⟨q_22, hF⟩ | ⟨q_22, hF⟩
                                · clear hG
                                  exact hm.tr (mB_MText_sign_200 hF)
                                · clear hG
                                  exact hm.tr (mB_MText_sign_205 hF)
set_option maxRecDepth 20000 in
set_option maxHeartbeats 2000000 in
theorem kB_MText_sign_102 {N : Nat} {p0 : Nat} {p1 : Int32} {p2 : Int32} {p3 : Int32} {w0 : Int32} {H : Hp} {r : Int32 × Hp} (hF : B_MText_sign_102 N p0 p1 p2 p3 w0 H = some r) : ab_V y_MText_sign { frames := 1, cells := 0, slots := 0, locals := 23 } (po (.returned (some (.int r.1))) r.2) 0 0 0 0 102 [some (.ref p0), some (.int p1), some (.int p2), some (.int p3), none, none] [.int w0] (hpw H) := by
  unfold B_MText_sign_102 at hF
  refine ab_istore (lv' := [some (.ref p0), some (.int p1), some (.int p2), some (.int p3), some (.int w0), none]) d_MText_sign_102 (by decide) rfl ?_
  refine ab_iload_n d_MText_sign_104 rfl rfl ?_
  refine ab_bipush (v := 123) d_MText_sign_105 (by decide) ?_
  refine ab_icmp_eq (tgt := 200) d_MText_sign_107 (by decide) (fun q7 => ?_) (fun q7 => ?_)
  · rw [if_pos q7] at hF
    exact kB_MText_sign_200 hF
  · rw [if_neg q7] at hF
    refine ab_iload_n d_MText_sign_110 rfl rfl ?_
    refine ab_bipush (v := 125) d_MText_sign_111 (by decide) ?_
    refine ab_icmp_eq (tgt := 200) d_MText_sign_113 (by decide) (fun q24 => ?_) (fun q24 => ?_)
    · rw [if_pos q24] at hF
      exact kB_MText_sign_200 hF
    · rw [if_neg q24] at hF
      refine ab_iload_n d_MText_sign_116 rfl rfl ?_
      refine ab_bipush (v := 40) d_MText_sign_117 (by decide) ?_
      refine ab_icmp_eq (tgt := 200) d_MText_sign_119 (by decide) (fun q25 => ?_) (fun q25 => ?_)
      · rw [if_pos q25] at hF
        exact kB_MText_sign_200 hF
      · rw [if_neg q25] at hF
        refine ab_iload_n d_MText_sign_122 rfl rfl ?_
        refine ab_bipush (v := 41) d_MText_sign_123 (by decide) ?_
        refine ab_icmp_eq (tgt := 200) d_MText_sign_125 (by decide) (fun q26 => ?_) (fun q26 => ?_)
        · rw [if_pos q26] at hF
          exact kB_MText_sign_200 hF
        · rw [if_neg q26] at hF
          refine ab_iload_n d_MText_sign_128 rfl rfl ?_
          refine ab_bipush (v := 44) d_MText_sign_129 (by decide) ?_
          refine ab_icmp_eq (tgt := 200) d_MText_sign_131 (by decide) (fun q27 => ?_) (fun q27 => ?_)
          · rw [if_pos q27] at hF
            exact kB_MText_sign_200 hF
          · rw [if_neg q27] at hF
            refine ab_iload_n d_MText_sign_134 rfl rfl ?_
            refine ab_bipush (v := 59) d_MText_sign_135 (by decide) ?_
            refine ab_icmp_eq (tgt := 200) d_MText_sign_137 (by decide) (fun q28 => ?_) (fun q28 => ?_)
            · rw [if_pos q28] at hF
              exact kB_MText_sign_200 hF
            · rw [if_neg q28] at hF
              refine ab_iload_n d_MText_sign_140 rfl rfl ?_
              refine ab_bipush (v := 46) d_MText_sign_141 (by decide) ?_
              refine ab_icmp_eq (tgt := 200) d_MText_sign_143 (by decide) (fun q29 => ?_) (fun q29 => ?_)
              · rw [if_pos q29] at hF
                exact kB_MText_sign_200 hF
              · rw [if_neg q29] at hF
                refine ab_iload_n d_MText_sign_146 rfl rfl ?_
                refine ab_bipush (v := 61) d_MText_sign_147 (by decide) ?_
                refine ab_icmp_eq (tgt := 200) d_MText_sign_149 (by decide) (fun q30 => ?_) (fun q30 => ?_)
                · rw [if_pos q30] at hF
                  exact kB_MText_sign_200 hF
                · rw [if_neg q30] at hF
                  refine ab_iload_n d_MText_sign_152 rfl rfl ?_
                  refine ab_bipush (v := 43) d_MText_sign_153 (by decide) ?_
                  refine ab_icmp_eq (tgt := 200) d_MText_sign_155 (by decide) (fun q31 => ?_) (fun q31 => ?_)
                  · rw [if_pos q31] at hF
                    exact kB_MText_sign_200 hF
                  · rw [if_neg q31] at hF
                    refine ab_iload_n d_MText_sign_158 rfl rfl ?_
                    refine ab_bipush (v := 45) d_MText_sign_159 (by decide) ?_
                    refine ab_icmp_eq (tgt := 200) d_MText_sign_161 (by decide) (fun q32 => ?_) (fun q32 => ?_)
                    · rw [if_pos q32] at hF
                      exact kB_MText_sign_200 hF
                    · rw [if_neg q32] at hF
                      refine ab_iload_n d_MText_sign_164 rfl rfl ?_
                      refine ab_bipush (v := 42) d_MText_sign_165 (by decide) ?_
                      refine ab_icmp_eq (tgt := 200) d_MText_sign_167 (by decide) (fun q33 => ?_) (fun q33 => ?_)
                      · rw [if_pos q33] at hF
                        exact kB_MText_sign_200 hF
                      · rw [if_neg q33] at hF
                        refine ab_iload_n d_MText_sign_170 rfl rfl ?_
                        refine ab_bipush (v := 47) d_MText_sign_171 (by decide) ?_
                        refine ab_icmp_eq (tgt := 200) d_MText_sign_173 (by decide) (fun q34 => ?_) (fun q34 => ?_)
                        · rw [if_pos q34] at hF
                          exact kB_MText_sign_200 hF
                        · rw [if_neg q34] at hF
                          refine ab_iload_n d_MText_sign_176 rfl rfl ?_
                          refine ab_bipush (v := 37) d_MText_sign_177 (by decide) ?_
                          refine ab_icmp_eq (tgt := 200) d_MText_sign_179 (by decide) (fun q35 => ?_) (fun q35 => ?_)
                          · rw [if_pos q35] at hF
                            exact kB_MText_sign_200 hF
                          · rw [if_neg q35] at hF
                            refine ab_iload_n d_MText_sign_182 rfl rfl ?_
                            refine ab_bipush (v := 60) d_MText_sign_183 (by decide) ?_
                            refine ab_icmp_eq (tgt := 200) d_MText_sign_185 (by decide) (fun q36 => ?_) (fun q36 => ?_)
                            · rw [if_pos q36] at hF
                              exact kB_MText_sign_200 hF
                            · rw [if_neg q36] at hF
                              refine ab_iload_n d_MText_sign_188 rfl rfl ?_
                              refine ab_bipush (v := 62) d_MText_sign_189 (by decide) ?_
                              refine ab_icmp_eq (tgt := 200) d_MText_sign_191 (by decide) (fun q37 => ?_) (fun q37 => ?_)
                              · rw [if_pos q37] at hF
                                exact kB_MText_sign_200 hF
                              · rw [if_neg q37] at hF
                                refine ab_iload_n d_MText_sign_194 rfl rfl ?_
                                refine ab_bipush (v := 33) d_MText_sign_195 (by decide) ?_
                                refine ab_icmp_ne (tgt := 204) d_MText_sign_197 (by decide) (fun q38 => ?_) (fun q38 => ?_)
                                · rw [if_neg q38] at hF
                                  refine ab_iconst (v := 0) d_MText_sign_204 (by decide) ?_
                                  exact kB_MText_sign_205 hF
                                · rw [if_pos q38] at hF
                                  exact kB_MText_sign_200 hF
def B_MText_sign_101 (N : Nat) (p0 : Nat) (p1 : Int32) (p2 : Int32) (p3 : Int32)  (H : Hp) : Option (Int32 × Hp) :=
    B_MText_sign_102 N p0 p1 p2 p3 0 H
set_option maxRecDepth 20000 in
set_option maxHeartbeats 2000000 in
theorem mB_MText_sign_101 {N : Nat} {p0 : Nat} {p1 : Int32} {p2 : Int32} {p3 : Int32}  {H : Hp} {r : Int32 × Hp} (hF : B_MText_sign_101 N p0 p1 p2 p3  H = some r) : Sa H r.2 := by
  unfold B_MText_sign_101 at hF
  have hm := Sa.rf H
  exact hm.tr (mB_MText_sign_102 hF)
set_option maxRecDepth 20000 in
set_option maxHeartbeats 2000000 in
theorem kB_MText_sign_101 {N : Nat} {p0 : Nat} {p1 : Int32} {p2 : Int32} {p3 : Int32}  {H : Hp} {r : Int32 × Hp} (hF : B_MText_sign_101 N p0 p1 p2 p3  H = some r) : ab_V y_MText_sign { frames := 1, cells := 0, slots := 0, locals := 23 } (po (.returned (some (.int r.1))) r.2) 0 0 0 0 101 [some (.ref p0), some (.int p1), some (.int p2), some (.int p3), none, none] [] (hpw H) := by
  unfold B_MText_sign_101 at hF
  refine ab_iconst (v := 0) d_MText_sign_101 (by decide) ?_
  exact kB_MText_sign_102 hF
def B_MText_sign_84 (N : Nat) (p0 : Nat) (p1 : Int32) (p2 : Int32) (p3 : Int32)  (H : Hp) : Option (Int32 × Hp) :=
    if p2 = (124 : Int32) then
    if p3 = (124 : Int32) then
    B_MText_sign_102 N p0 p1 p2 p3 10 H
    else
    B_MText_sign_101 N p0 p1 p2 p3  H
    else
    B_MText_sign_101 N p0 p1 p2 p3  H
set_option maxRecDepth 20000 in
set_option maxHeartbeats 2000000 in
theorem mB_MText_sign_84 {N : Nat} {p0 : Nat} {p1 : Int32} {p2 : Int32} {p3 : Int32}  {H : Hp} {r : Int32 × Hp} (hF : B_MText_sign_84 N p0 p1 p2 p3  H = some r) : Sa H r.2 := by
  unfold B_MText_sign_84 at hF
  have hm := Sa.rf H
  rcases ite_s hF with ⟨q_23, hG⟩ | ⟨q_23, hG⟩
  · clear hF
    rcases ite_s hG with ⟨q_24, hF⟩ | ⟨q_24, hF⟩
    · clear hG
      exact hm.tr (mB_MText_sign_102 hF)
    · clear hG
      exact hm.tr (mB_MText_sign_101 hF)
  · clear hF
    exact hm.tr (mB_MText_sign_101 hG)
set_option maxRecDepth 20000 in
set_option maxHeartbeats 2000000 in
theorem kB_MText_sign_84 {N : Nat} {p0 : Nat} {p1 : Int32} {p2 : Int32} {p3 : Int32}  {H : Hp} {r : Int32 × Hp} (hF : B_MText_sign_84 N p0 p1 p2 p3  H = some r) : ab_V y_MText_sign { frames := 1, cells := 0, slots := 0, locals := 23 } (po (.returned (some (.int r.1))) r.2) 0 0 0 0 84 [some (.ref p0), some (.int p1), some (.int p2), some (.int p3), none, none] [] (hpw H) := by
  unfold B_MText_sign_84 at hF
  refine ab_iload_n d_MText_sign_84 rfl rfl ?_
  refine ab_bipush (v := 124) d_MText_sign_85 (by decide) ?_
  refine ab_icmp_ne (tgt := 101) d_MText_sign_87 (by decide) (fun q6 => ?_) (fun q6 => ?_)
  · rw [if_neg q6] at hF
    exact kB_MText_sign_101 hF
  · rw [if_pos q6] at hF
    refine ab_iload_n d_MText_sign_90 rfl rfl ?_
    refine ab_bipush (v := 124) d_MText_sign_91 (by decide) ?_
    refine ab_icmp_ne (tgt := 101) d_MText_sign_93 (by decide) (fun q55 => ?_) (fun q55 => ?_)
    · rw [if_neg q55] at hF
      exact kB_MText_sign_101 hF
    · rw [if_pos q55] at hF
      refine ab_bipush (v := 10) d_MText_sign_96 (by decide) ?_
      refine ab_goto (tgt := 102) d_MText_sign_98 (by decide) ?_
      exact kB_MText_sign_102 hF
def B_MText_sign_67 (N : Nat) (p0 : Nat) (p1 : Int32) (p2 : Int32) (p3 : Int32)  (H : Hp) : Option (Int32 × Hp) :=
    if p2 = (38 : Int32) then
    if p3 = (38 : Int32) then
    B_MText_sign_102 N p0 p1 p2 p3 9 H
    else
    B_MText_sign_84 N p0 p1 p2 p3  H
    else
    B_MText_sign_84 N p0 p1 p2 p3  H
set_option maxRecDepth 20000 in
set_option maxHeartbeats 2000000 in
theorem mB_MText_sign_67 {N : Nat} {p0 : Nat} {p1 : Int32} {p2 : Int32} {p3 : Int32}  {H : Hp} {r : Int32 × Hp} (hF : B_MText_sign_67 N p0 p1 p2 p3  H = some r) : Sa H r.2 := by
  unfold B_MText_sign_67 at hF
  have hm := Sa.rf H
  rcases ite_s hF with ⟨q_25, hG⟩ | ⟨q_25, hG⟩
  · clear hF
    rcases ite_s hG with ⟨q_26, hF⟩ | ⟨q_26, hF⟩
    · clear hG
      exact hm.tr (mB_MText_sign_102 hF)
    · clear hG
      exact hm.tr (mB_MText_sign_84 hF)
  · clear hF
    exact hm.tr (mB_MText_sign_84 hG)
set_option maxRecDepth 20000 in
set_option maxHeartbeats 2000000 in
theorem kB_MText_sign_67 {N : Nat} {p0 : Nat} {p1 : Int32} {p2 : Int32} {p3 : Int32}  {H : Hp} {r : Int32 × Hp} (hF : B_MText_sign_67 N p0 p1 p2 p3  H = some r) : ab_V y_MText_sign { frames := 1, cells := 0, slots := 0, locals := 23 } (po (.returned (some (.int r.1))) r.2) 0 0 0 0 67 [some (.ref p0), some (.int p1), some (.int p2), some (.int p3), none, none] [] (hpw H) := by
  unfold B_MText_sign_67 at hF
  refine ab_iload_n d_MText_sign_67 rfl rfl ?_
  refine ab_bipush (v := 38) d_MText_sign_68 (by decide) ?_
  refine ab_icmp_ne (tgt := 84) d_MText_sign_70 (by decide) (fun q5 => ?_) (fun q5 => ?_)
  · rw [if_neg q5] at hF
    exact kB_MText_sign_84 hF
  · rw [if_pos q5] at hF
    refine ab_iload_n d_MText_sign_73 rfl rfl ?_
    refine ab_bipush (v := 38) d_MText_sign_74 (by decide) ?_
    refine ab_icmp_ne (tgt := 84) d_MText_sign_76 (by decide) (fun q58 => ?_) (fun q58 => ?_)
    · rw [if_neg q58] at hF
      exact kB_MText_sign_84 hF
    · rw [if_pos q58] at hF
      refine ab_bipush (v := 9) d_MText_sign_79 (by decide) ?_
      refine ab_goto (tgt := 102) d_MText_sign_81 (by decide) ?_
      exact kB_MText_sign_102 hF
def B_MText_sign_50 (N : Nat) (p0 : Nat) (p1 : Int32) (p2 : Int32) (p3 : Int32)  (H : Hp) : Option (Int32 × Hp) :=
    if p2 = (33 : Int32) then
    if p3 = (61 : Int32) then
    B_MText_sign_102 N p0 p1 p2 p3 8 H
    else
    B_MText_sign_67 N p0 p1 p2 p3  H
    else
    B_MText_sign_67 N p0 p1 p2 p3  H
set_option maxRecDepth 20000 in
set_option maxHeartbeats 2000000 in
theorem mB_MText_sign_50 {N : Nat} {p0 : Nat} {p1 : Int32} {p2 : Int32} {p3 : Int32}  {H : Hp} {r : Int32 × Hp} (hF : B_MText_sign_50 N p0 p1 p2 p3  H = some r) : Sa H r.2 := by
  unfold B_MText_sign_50 at hF
  have hm := Sa.rf H
  rcases ite_s hF with ⟨q_27, hG⟩ | ⟨q_27, hG⟩
  · clear hF
    rcases ite_s hG with ⟨q_28, hF⟩ | ⟨q_28, hF⟩
    · clear hG
      exact hm.tr (mB_MText_sign_102 hF)
    · clear hG
      exact hm.tr (mB_MText_sign_67 hF)
  · clear hF
    exact hm.tr (mB_MText_sign_67 hG)
set_option maxRecDepth 20000 in
set_option maxHeartbeats 2000000 in
theorem kB_MText_sign_50 {N : Nat} {p0 : Nat} {p1 : Int32} {p2 : Int32} {p3 : Int32}  {H : Hp} {r : Int32 × Hp} (hF : B_MText_sign_50 N p0 p1 p2 p3  H = some r) : ab_V y_MText_sign { frames := 1, cells := 0, slots := 0, locals := 23 } (po (.returned (some (.int r.1))) r.2) 0 0 0 0 50 [some (.ref p0), some (.int p1), some (.int p2), some (.int p3), none, none] [] (hpw H) := by
  unfold B_MText_sign_50 at hF
  refine ab_iload_n d_MText_sign_50 rfl rfl ?_
  refine ab_bipush (v := 33) d_MText_sign_51 (by decide) ?_
  refine ab_icmp_ne (tgt := 67) d_MText_sign_53 (by decide) (fun q4 => ?_) (fun q4 => ?_)
  · rw [if_neg q4] at hF
    exact kB_MText_sign_67 hF
  · rw [if_pos q4] at hF
    refine ab_iload_n d_MText_sign_56 rfl rfl ?_
    refine ab_bipush (v := 61) d_MText_sign_57 (by decide) ?_
    refine ab_icmp_ne (tgt := 67) d_MText_sign_59 (by decide) (fun q61 => ?_) (fun q61 => ?_)
    · rw [if_neg q61] at hF
      exact kB_MText_sign_67 hF
    · rw [if_pos q61] at hF
      refine ab_bipush (v := 8) d_MText_sign_62 (by decide) ?_
      refine ab_goto (tgt := 102) d_MText_sign_64 (by decide) ?_
      exact kB_MText_sign_102 hF
def B_MText_sign_33 (N : Nat) (p0 : Nat) (p1 : Int32) (p2 : Int32) (p3 : Int32)  (H : Hp) : Option (Int32 × Hp) :=
    if p2 = (61 : Int32) then
    if p3 = (61 : Int32) then
    B_MText_sign_102 N p0 p1 p2 p3 7 H
    else
    B_MText_sign_50 N p0 p1 p2 p3  H
    else
    B_MText_sign_50 N p0 p1 p2 p3  H
set_option maxRecDepth 20000 in
set_option maxHeartbeats 2000000 in
theorem mB_MText_sign_33 {N : Nat} {p0 : Nat} {p1 : Int32} {p2 : Int32} {p3 : Int32}  {H : Hp} {r : Int32 × Hp} (hF : B_MText_sign_33 N p0 p1 p2 p3  H = some r) : Sa H r.2 := by
  unfold B_MText_sign_33 at hF
  have hm := Sa.rf H
  rcases ite_s hF with ⟨q_29, hG⟩ | ⟨q_29, hG⟩
  · clear hF
    rcases ite_s hG with ⟨q_30, hF⟩ | ⟨q_30, hF⟩
    · clear hG
      exact hm.tr (mB_MText_sign_102 hF)
    · clear hG
      exact hm.tr (mB_MText_sign_50 hF)
  · clear hF
    exact hm.tr (mB_MText_sign_50 hG)
set_option maxRecDepth 20000 in
set_option maxHeartbeats 2000000 in
theorem kB_MText_sign_33 {N : Nat} {p0 : Nat} {p1 : Int32} {p2 : Int32} {p3 : Int32}  {H : Hp} {r : Int32 × Hp} (hF : B_MText_sign_33 N p0 p1 p2 p3  H = some r) : ab_V y_MText_sign { frames := 1, cells := 0, slots := 0, locals := 23 } (po (.returned (some (.int r.1))) r.2) 0 0 0 0 33 [some (.ref p0), some (.int p1), some (.int p2), some (.int p3), none, none] [] (hpw H) := by
  unfold B_MText_sign_33 at hF
  refine ab_iload_n d_MText_sign_33 rfl rfl ?_
  refine ab_bipush (v := 61) d_MText_sign_34 (by decide) ?_
  refine ab_icmp_ne (tgt := 50) d_MText_sign_36 (by decide) (fun q3 => ?_) (fun q3 => ?_)
  · rw [if_neg q3] at hF
    exact kB_MText_sign_50 hF
  · rw [if_pos q3] at hF
    refine ab_iload_n d_MText_sign_39 rfl rfl ?_
    refine ab_bipush (v := 61) d_MText_sign_40 (by decide) ?_
    refine ab_icmp_ne (tgt := 50) d_MText_sign_42 (by decide) (fun q64 => ?_) (fun q64 => ?_)
    · rw [if_neg q64] at hF
      exact kB_MText_sign_50 hF
    · rw [if_pos q64] at hF
      refine ab_bipush (v := 7) d_MText_sign_45 (by decide) ?_
      refine ab_goto (tgt := 102) d_MText_sign_47 (by decide) ?_
      exact kB_MText_sign_102 hF
def B_MText_sign_16 (N : Nat) (p0 : Nat) (p1 : Int32) (p2 : Int32) (p3 : Int32)  (H : Hp) : Option (Int32 × Hp) :=
    if p2 = (62 : Int32) then
    if p3 = (61 : Int32) then
    B_MText_sign_102 N p0 p1 p2 p3 6 H
    else
    B_MText_sign_33 N p0 p1 p2 p3  H
    else
    B_MText_sign_33 N p0 p1 p2 p3  H
set_option maxRecDepth 20000 in
set_option maxHeartbeats 2000000 in
theorem mB_MText_sign_16 {N : Nat} {p0 : Nat} {p1 : Int32} {p2 : Int32} {p3 : Int32}  {H : Hp} {r : Int32 × Hp} (hF : B_MText_sign_16 N p0 p1 p2 p3  H = some r) : Sa H r.2 := by
  unfold B_MText_sign_16 at hF
  have hm := Sa.rf H
  rcases ite_s hF with ⟨q_31, hG⟩ | ⟨q_31, hG⟩
  · clear hF
    rcases ite_s hG with ⟨q_32, hF⟩ | ⟨q_32, hF⟩
    · clear hG
      exact hm.tr (mB_MText_sign_102 hF)
    · clear hG
      exact hm.tr (mB_MText_sign_33 hF)
  · clear hF
    exact hm.tr (mB_MText_sign_33 hG)
set_option maxRecDepth 20000 in
set_option maxHeartbeats 2000000 in
theorem kB_MText_sign_16 {N : Nat} {p0 : Nat} {p1 : Int32} {p2 : Int32} {p3 : Int32}  {H : Hp} {r : Int32 × Hp} (hF : B_MText_sign_16 N p0 p1 p2 p3  H = some r) : ab_V y_MText_sign { frames := 1, cells := 0, slots := 0, locals := 23 } (po (.returned (some (.int r.1))) r.2) 0 0 0 0 16 [some (.ref p0), some (.int p1), some (.int p2), some (.int p3), none, none] [] (hpw H) := by
  unfold B_MText_sign_16 at hF
  refine ab_iload_n d_MText_sign_16 rfl rfl ?_
  refine ab_bipush (v := 62) d_MText_sign_17 (by decide) ?_
  refine ab_icmp_ne (tgt := 33) d_MText_sign_19 (by decide) (fun q2 => ?_) (fun q2 => ?_)
  · rw [if_neg q2] at hF
    exact kB_MText_sign_33 hF
  · rw [if_pos q2] at hF
    refine ab_iload_n d_MText_sign_22 rfl rfl ?_
    refine ab_bipush (v := 61) d_MText_sign_23 (by decide) ?_
    refine ab_icmp_ne (tgt := 33) d_MText_sign_25 (by decide) (fun q67 => ?_) (fun q67 => ?_)
    · rw [if_neg q67] at hF
      exact kB_MText_sign_33 hF
    · rw [if_pos q67] at hF
      refine ab_bipush (v := 6) d_MText_sign_28 (by decide) ?_
      refine ab_goto (tgt := 102) d_MText_sign_30 (by decide) ?_
      exact kB_MText_sign_102 hF
def F_MText_sign (N : Nat) (p0 : Nat) (p1 : Int32) (p2 : Int32) (p3 : Int32) (H : Hp) : Option (Int32 × Hp) :=
    if p2 = (60 : Int32) then
    if p3 = (61 : Int32) then
    B_MText_sign_102 N p0 p1 p2 p3 5 H
    else
    B_MText_sign_16 N p0 p1 p2 p3  H
    else
    B_MText_sign_16 N p0 p1 p2 p3  H
set_option maxRecDepth 20000 in
set_option maxHeartbeats 2000000 in
theorem m_MText_sign {N : Nat} {p0 : Nat} {p1 : Int32} {p2 : Int32} {p3 : Int32} {H : Hp} {r : Int32 × Hp} (hF : F_MText_sign N p0 p1 p2 p3 H = some r) : Sa H r.2 := by
  unfold F_MText_sign at hF
  have hm := Sa.rf H
  rcases ite_s hF with ⟨q_33, hG⟩ | ⟨q_33, hG⟩
  · clear hF
    rcases ite_s hG with ⟨q_34, hF⟩ | ⟨q_34, hF⟩
    · clear hG
      exact hm.tr (mB_MText_sign_102 hF)
    · clear hG
      exact hm.tr (mB_MText_sign_16 hF)
  · clear hF
    exact hm.tr (mB_MText_sign_16 hG)
set_option maxRecDepth 20000 in
set_option maxHeartbeats 2000000 in
theorem k_MText_sign {N : Nat} {p0 : Nat} {p1 : Int32} {p2 : Int32} {p3 : Int32} {H : Hp} {r : Int32 × Hp} (hF : F_MText_sign N p0 p1 p2 p3 H = some r) : ab_M y_MText_sign { frames := 1, cells := 0, slots := 0, locals := 23 } [.ref p0, .int p1, .int p2, .int p3] (hpw H) (po (.returned (some (.int r.1))) r.2) := by
  unfold F_MText_sign at hF
  refine ab_of2 (lv := [some (.ref p0), some (.int p1), some (.int p2), some (.int p3), none, none]) 2 rfl rfl (Nat.le_of_ble_eq_true rfl) ?_
  refine ab_iload_n d_MText_sign_0 rfl rfl ?_
  refine ab_bipush (v := 60) d_MText_sign_1 (by decide) ?_
  refine ab_icmp_ne (tgt := 16) d_MText_sign_3 (by decide) (fun q1 => ?_) (fun q1 => ?_)
  · rw [if_neg q1] at hF
    exact kB_MText_sign_16 hF
  · rw [if_pos q1] at hF
    refine ab_iload_n d_MText_sign_6 rfl rfl ?_
    refine ab_bipush (v := 61) d_MText_sign_7 (by decide) ?_
    refine ab_icmp_ne (tgt := 16) d_MText_sign_9 (by decide) (fun q70 => ?_) (fun q70 => ?_)
    · rw [if_neg q70] at hF
      exact kB_MText_sign_16 hF
    · rw [if_pos q70] at hF
      refine ab_iconst (v := 5) d_MText_sign_12 (by decide) ?_
      refine ab_goto (tgt := 102) d_MText_sign_13 (by decide) ?_
      exact kB_MText_sign_102 hF
def y_MText_scans : ab_Y := (⟨"WorldEngineModel$Text", "scans", "([BI)V"⟩, prog_16_method_6_code, 6, none, [])
theorem d_MText_scans_0 : decode y_MText_scans.2.1 0 = .ok (.aload_n 0, 1) := by decide +kernel
theorem d_MText_scans_1 : decode y_MText_scans.2.1 1 = .ok (.iload_n 2, 1) := by decide +kernel
theorem d_MText_scans_2 : decode y_MText_scans.2.1 2 = .ok (.putfield 104, 3) := by decide +kernel
theorem d_MText_scans_5 : decode y_MText_scans.2.1 5 = .ok (.iconst 0, 1) := by decide +kernel
theorem d_MText_scans_6 : decode y_MText_scans.2.1 6 = .ok (.istore_n 3, 1) := by decide +kernel
theorem d_MText_scans_7 : decode y_MText_scans.2.1 7 = .ok (.iload_n 3, 1) := by decide +kernel
theorem d_MText_scans_8 : decode y_MText_scans.2.1 8 = .ok (.iload_n 2, 1) := by decide +kernel
theorem d_MText_scans_9 : decode y_MText_scans.2.1 9 = .ok (.if_icmp .ge 18, 3) := by decide +kernel
theorem d_MText_scans_12 : decode y_MText_scans.2.1 12 = .ok (.aload_n 0, 1) := by decide +kernel
theorem d_MText_scans_13 : decode y_MText_scans.2.1 13 = .ok (.getfield 11, 3) := by decide +kernel
theorem d_MText_scans_16 : decode y_MText_scans.2.1 16 = .ok (.iload_n 3, 1) := by decide +kernel
theorem d_MText_scans_17 : decode y_MText_scans.2.1 17 = .ok (.aload_n 1, 1) := by decide +kernel
theorem d_MText_scans_18 : decode y_MText_scans.2.1 18 = .ok (.iload_n 3, 1) := by decide +kernel
theorem d_MText_scans_19 : decode y_MText_scans.2.1 19 = .ok (.baload, 1) := by decide +kernel
theorem d_MText_scans_20 : decode y_MText_scans.2.1 20 = .ok (.bastore, 1) := by decide +kernel
theorem d_MText_scans_21 : decode y_MText_scans.2.1 21 = .ok (.iinc 3 1, 3) := by decide +kernel
theorem d_MText_scans_24 : decode y_MText_scans.2.1 24 = .ok (.goto (-17), 3) := by decide +kernel
theorem d_MText_scans_27 : decode y_MText_scans.2.1 27 = .ok (.aload_n 0, 1) := by decide +kernel
theorem d_MText_scans_28 : decode y_MText_scans.2.1 28 = .ok (.iconst 0, 1) := by decide +kernel
theorem d_MText_scans_29 : decode y_MText_scans.2.1 29 = .ok (.putfield 108, 3) := by decide +kernel
theorem d_MText_scans_32 : decode y_MText_scans.2.1 32 = .ok (.iconst 0, 1) := by decide +kernel
theorem d_MText_scans_33 : decode y_MText_scans.2.1 33 = .ok (.istore_n 3, 1) := by decide +kernel
theorem d_MText_scans_34 : decode y_MText_scans.2.1 34 = .ok (.iconst 1, 1) := by decide +kernel
theorem d_MText_scans_35 : decode y_MText_scans.2.1 35 = .ok (.istore 4, 2) := by decide +kernel
theorem d_MText_scans_37 : decode y_MText_scans.2.1 37 = .ok (.iload 4, 2) := by decide +kernel
theorem d_MText_scans_39 : decode y_MText_scans.2.1 39 = .ok (.ifCond .eq 117, 3) := by decide +kernel
theorem d_MText_scans_42 : decode y_MText_scans.2.1 42 = .ok (.aload_n 0, 1) := by decide +kernel
theorem d_MText_scans_43 : decode y_MText_scans.2.1 43 = .ok (.iload_n 3, 1) := by decide +kernel
theorem d_MText_scans_44 : decode y_MText_scans.2.1 44 = .ok (.invokevirtual 111, 3) := by decide +kernel
theorem d_MText_scans_47 : decode y_MText_scans.2.1 47 = .ok (.istore_n 3, 1) := by decide +kernel
theorem d_MText_scans_48 : decode y_MText_scans.2.1 48 = .ok (.aload_n 0, 1) := by decide +kernel
theorem d_MText_scans_49 : decode y_MText_scans.2.1 49 = .ok (.iload_n 3, 1) := by decide +kernel
theorem d_MText_scans_50 : decode y_MText_scans.2.1 50 = .ok (.invokevirtual 115, 3) := by decide +kernel
theorem d_MText_scans_53 : decode y_MText_scans.2.1 53 = .ok (.istore 5, 2) := by decide +kernel
theorem d_MText_scans_55 : decode y_MText_scans.2.1 55 = .ok (.iload_n 3, 1) := by decide +kernel
theorem d_MText_scans_56 : decode y_MText_scans.2.1 56 = .ok (.aload_n 0, 1) := by decide +kernel
theorem d_MText_scans_57 : decode y_MText_scans.2.1 57 = .ok (.getfield 104, 3) := by decide +kernel
theorem d_MText_scans_60 : decode y_MText_scans.2.1 60 = .ok (.if_icmp .lt 22, 3) := by decide +kernel
theorem d_MText_scans_63 : decode y_MText_scans.2.1 63 = .ok (.aload_n 0, 1) := by decide +kernel
theorem d_MText_scans_64 : decode y_MText_scans.2.1 64 = .ok (.iconst 0, 1) := by decide +kernel
theorem d_MText_scans_65 : decode y_MText_scans.2.1 65 = .ok (.aload_n 0, 1) := by decide +kernel
theorem d_MText_scans_66 : decode y_MText_scans.2.1 66 = .ok (.getfield 104, 3) := by decide +kernel
theorem d_MText_scans_69 : decode y_MText_scans.2.1 69 = .ok (.aload_n 0, 1) := by decide +kernel
theorem d_MText_scans_70 : decode y_MText_scans.2.1 70 = .ok (.getfield 104, 3) := by decide +kernel
theorem d_MText_scans_73 : decode y_MText_scans.2.1 73 = .ok (.invokevirtual 118, 3) := by decide +kernel
theorem d_MText_scans_76 : decode y_MText_scans.2.1 76 = .ok (.iconst 0, 1) := by decide +kernel
theorem d_MText_scans_77 : decode y_MText_scans.2.1 77 = .ok (.istore 4, 2) := by decide +kernel
theorem d_MText_scans_79 : decode y_MText_scans.2.1 79 = .ok (.goto 74, 3) := by decide +kernel
theorem d_MText_scans_82 : decode y_MText_scans.2.1 82 = .ok (.iload 5, 2) := by decide +kernel
theorem d_MText_scans_84 : decode y_MText_scans.2.1 84 = .ok (.invokestatic 122, 3) := by decide +kernel
theorem d_MText_scans_87 : decode y_MText_scans.2.1 87 = .ok (.ifCond .eq 12, 3) := by decide +kernel
theorem d_MText_scans_90 : decode y_MText_scans.2.1 90 = .ok (.aload_n 0, 1) := by decide +kernel
theorem d_MText_scans_91 : decode y_MText_scans.2.1 91 = .ok (.iload_n 3, 1) := by decide +kernel
theorem d_MText_scans_92 : decode y_MText_scans.2.1 92 = .ok (.invokevirtual 126, 3) := by decide +kernel
theorem d_MText_scans_95 : decode y_MText_scans.2.1 95 = .ok (.istore_n 3, 1) := by decide +kernel
theorem d_MText_scans_96 : decode y_MText_scans.2.1 96 = .ok (.goto 57, 3) := by decide +kernel
theorem d_MText_scans_99 : decode y_MText_scans.2.1 99 = .ok (.iload 5, 2) := by decide +kernel
theorem d_MText_scans_101 : decode y_MText_scans.2.1 101 = .ok (.invokestatic 129, 3) := by decide +kernel
theorem d_MText_scans_104 : decode y_MText_scans.2.1 104 = .ok (.ifCond .eq 12, 3) := by decide +kernel
theorem d_MText_scans_107 : decode y_MText_scans.2.1 107 = .ok (.aload_n 0, 1) := by decide +kernel
theorem d_MText_scans_108 : decode y_MText_scans.2.1 108 = .ok (.iload_n 3, 1) := by decide +kernel
theorem d_MText_scans_109 : decode y_MText_scans.2.1 109 = .ok (.invokevirtual 132, 3) := by decide +kernel
theorem d_MText_scans_112 : decode y_MText_scans.2.1 112 = .ok (.istore_n 3, 1) := by decide +kernel
theorem d_MText_scans_113 : decode y_MText_scans.2.1 113 = .ok (.goto 40, 3) := by decide +kernel
theorem d_MText_scans_116 : decode y_MText_scans.2.1 116 = .ok (.aload_n 0, 1) := by decide +kernel
theorem d_MText_scans_117 : decode y_MText_scans.2.1 117 = .ok (.iload_n 3, 1) := by decide +kernel
theorem d_MText_scans_118 : decode y_MText_scans.2.1 118 = .ok (.iload 5, 2) := by decide +kernel
theorem d_MText_scans_120 : decode y_MText_scans.2.1 120 = .ok (.aload_n 0, 1) := by decide +kernel
theorem d_MText_scans_121 : decode y_MText_scans.2.1 121 = .ok (.iload_n 3, 1) := by decide +kernel
theorem d_MText_scans_122 : decode y_MText_scans.2.1 122 = .ok (.iconst 1, 1) := by decide +kernel
theorem d_MText_scans_123 : decode y_MText_scans.2.1 123 = .ok (.iadd, 1) := by decide +kernel
theorem d_MText_scans_124 : decode y_MText_scans.2.1 124 = .ok (.invokevirtual 115, 3) := by decide +kernel
theorem d_MText_scans_127 : decode y_MText_scans.2.1 127 = .ok (.invokevirtual 135, 3) := by decide +kernel
theorem d_MText_scans_130 : decode y_MText_scans.2.1 130 = .ok (.istore_n 3, 1) := by decide +kernel
theorem d_MText_scans_131 : decode y_MText_scans.2.1 131 = .ok (.aload_n 0, 1) := by decide +kernel
theorem d_MText_scans_132 : decode y_MText_scans.2.1 132 = .ok (.getfield 15, 3) := by decide +kernel
theorem d_MText_scans_135 : decode y_MText_scans.2.1 135 = .ok (.aload_n 0, 1) := by decide +kernel
theorem d_MText_scans_136 : decode y_MText_scans.2.1 136 = .ok (.getfield 108, 3) := by decide +kernel
theorem d_MText_scans_139 : decode y_MText_scans.2.1 139 = .ok (.iconst 1, 1) := by decide +kernel
theorem d_MText_scans_140 : decode y_MText_scans.2.1 140 = .ok (.isub, 1) := by decide +kernel
theorem d_MText_scans_141 : decode y_MText_scans.2.1 141 = .ok (.iaload, 1) := by decide +kernel
theorem d_MText_scans_142 : decode y_MText_scans.2.1 142 = .ok (.iconst 4, 1) := by decide +kernel
theorem d_MText_scans_143 : decode y_MText_scans.2.1 143 = .ok (.if_icmp .eq 7, 3) := by decide +kernel
theorem d_MText_scans_146 : decode y_MText_scans.2.1 146 = .ok (.iconst 1, 1) := by decide +kernel
theorem d_MText_scans_147 : decode y_MText_scans.2.1 147 = .ok (.goto 4, 3) := by decide +kernel
theorem d_MText_scans_150 : decode y_MText_scans.2.1 150 = .ok (.iconst 0, 1) := by decide +kernel
theorem d_MText_scans_151 : decode y_MText_scans.2.1 151 = .ok (.istore 4, 2) := by decide +kernel
theorem d_MText_scans_153 : decode y_MText_scans.2.1 153 = .ok (.goto (-116), 3) := by decide +kernel
theorem d_MText_scans_156 : decode y_MText_scans.2.1 156 = .ok (.return_, 1) := by decide +kernel
theorem s_MText_scans : ab_Stat y_MText_scans 2 := ⟨(k10 111 rfl rfl), (k1 20 rfl rfl), ⟨by decide, by decide⟩, by decide +kernel⟩
theorem i_MText_scans : Cond.instanceMethod y_MText_scans.1 ∈ ab_T := (k10 110 rfl rfl)
theorem v_MText_scans : Cond.selects "WorldEngineModel$Text" y_MText_scans.1 y_MText_scans.1 ∈ ab_T := ab_s (List.mem_of_getElem? (i := 107) rfl) rfl
def B_MText_scans_153 (N : Nat) (p0 : Nat) (p1 : Nat) (p2 : Int32) (kq37 : Int32 → Int32 → Hp → Option (Unit × Hp)) (l3 : Int32) (l4 : Int32) (H : Hp) : Option (Unit × Hp) :=
    kq37 l3 l4 H
set_option maxRecDepth 20000 in
set_option maxHeartbeats 2000000 in
theorem mB_MText_scans_153 {N : Nat} {p0 : Nat} {p1 : Nat} {p2 : Int32} {kq37 : Int32 → Int32 → Hp → Option (Unit × Hp)} (hm37 : ∀ (l3 : Int32) (l4 : Int32) (H : Hp) (r : Unit × Hp), kq37 l3 l4 H = some r → Sa H r.2) {l3 : Int32} {l4 : Int32} {H : Hp} {r : Unit × Hp} (hF : B_MText_scans_153 N p0 p1 p2 kq37 l3 l4 H = some r) : Sa H r.2 := by
  unfold B_MText_scans_153 at hF
  have hm := Sa.rf H
  exact hm.tr (hm37 l3 l4 H r hF)
set_option maxRecDepth 20000 in
set_option maxHeartbeats 2000000 in
theorem kB_MText_scans_153 {N : Nat} {p0 : Nat} {p1 : Nat} {p2 : Int32} {kq37 : Int32 → Int32 → Hp → Option (Unit × Hp)} (hm37 : ∀ (l3 : Int32) (l4 : Int32) (H : Hp) (r : Unit × Hp), kq37 l3 l4 H = some r → Sa H r.2) (hk37 : ∀ (l3 : Int32) (l4 : Int32) (H : Hp) (r : Unit × Hp), kq37 l3 l4 H = some r → ab_V y_MText_scans { frames := 5, cells := 0, slots := 0, locals := 111 } (po (.returned none) r.2) 0 0 0 0 37 [some (.ref p0), some (.ref p1), some (.int p2), some (.int l3), some (.int l4), none] [] (hpw H)) {l3 : Int32} {l4 : Int32} {H : Hp} {r : Unit × Hp} (hF : B_MText_scans_153 N p0 p1 p2 kq37 l3 l4 H = some r) : ab_V y_MText_scans { frames := 5, cells := 0, slots := 0, locals := 111 } (po (.returned none) r.2) 0 0 0 0 153 [some (.ref p0), some (.ref p1), some (.int p2), some (.int l3), some (.int l4), none] [] (hpw H) := by
  unfold B_MText_scans_153 at hF
  refine ab_goto (tgt := 37) d_MText_scans_153 (by decide) ?_
  exact hk37 l3 l4 H r hF
def B_MText_scans_151 (N : Nat) (p0 : Nat) (p1 : Nat) (p2 : Int32) (kq37 : Int32 → Int32 → Hp → Option (Unit × Hp)) (l3 : Int32) (w0 : Int32) (H : Hp) : Option (Unit × Hp) :=
    B_MText_scans_153 N p0 p1 p2 kq37 l3 w0 H
set_option maxRecDepth 20000 in
set_option maxHeartbeats 2000000 in
theorem mB_MText_scans_151 {N : Nat} {p0 : Nat} {p1 : Nat} {p2 : Int32} {kq37 : Int32 → Int32 → Hp → Option (Unit × Hp)} (hm37 : ∀ (l3 : Int32) (l4 : Int32) (H : Hp) (r : Unit × Hp), kq37 l3 l4 H = some r → Sa H r.2) {l3 : Int32} {w0 : Int32} {H : Hp} {r : Unit × Hp} (hF : B_MText_scans_151 N p0 p1 p2 kq37 l3 w0 H = some r) : Sa H r.2 := by
  unfold B_MText_scans_151 at hF
  have hm := Sa.rf H
  exact hm.tr (mB_MText_scans_153 hm37 hF)
set_option maxRecDepth 20000 in
set_option maxHeartbeats 2000000 in
theorem kB_MText_scans_151 {N : Nat} {p0 : Nat} {p1 : Nat} {p2 : Int32} {kq37 : Int32 → Int32 → Hp → Option (Unit × Hp)} (hm37 : ∀ (l3 : Int32) (l4 : Int32) (H : Hp) (r : Unit × Hp), kq37 l3 l4 H = some r → Sa H r.2) (hk37 : ∀ (l3 : Int32) (l4 : Int32) (H : Hp) (r : Unit × Hp), kq37 l3 l4 H = some r → ab_V y_MText_scans { frames := 5, cells := 0, slots := 0, locals := 111 } (po (.returned none) r.2) 0 0 0 0 37 [some (.ref p0), some (.ref p1), some (.int p2), some (.int l3), some (.int l4), none] [] (hpw H)) {l3 : Int32} {w0 : Int32} {H : Hp} {r : Unit × Hp} (hF : B_MText_scans_151 N p0 p1 p2 kq37 l3 w0 H = some r) : ab_V y_MText_scans { frames := 5, cells := 0, slots := 0, locals := 111 } (po (.returned none) r.2) 0 0 0 0 151 [some (.ref p0), some (.ref p1), some (.int p2), some (.int l3), none, none] [.int w0] (hpw H) := by
  unfold B_MText_scans_151 at hF
  refine ab_istore (lv' := [some (.ref p0), some (.ref p1), some (.int p2), some (.int l3), some (.int w0), none]) d_MText_scans_151 (by decide) rfl ?_
  exact kB_MText_scans_153 hm37 hk37 hF
def B_MText_scans_37 (N : Nat) (p0 : Nat) (p1 : Nat) (p2 : Int32) : Nat → Int32 → Int32 → Hp → Option (Unit × Hp)
  | 0, _, _, _ => none
  | n + 1, l3, l4, H =>
    if l4 = (0 : Int32) then
    some ((), H)
    else
    ck (H.sh[p0]? = some (14, 0)) <|
    bC (F_MText_skips N p0 l3 H) fun v9 H10 =>
    bC (F_MText_letter N p0 v9 H10) fun v12 H13 =>
    bnd ((H13.D p0 1)) fun x14 =>
    if v9 < x14 then
    bC (F_MText_isLetter N v12 H13) fun v17 H18 =>
    if v17 = (0 : Int32) then
    bC (F_MText_isDigit N v12 H18) fun v21 H22 =>
    if v21 = (0 : Int32) then
    bC (F_MText_letter N p0 (v9 + (1 : Int32)) H22) fun v25 H26 =>
    bC (F_MText_sign N p0 v9 v12 v25 H26) fun v28 H29 =>
    rf (H29.P p0 3) fun a30 =>
    bnd ((H29.D p0 2)) fun x32 =>
    ar H29 100 a30 fun n33 =>
    ck (inb (x32 - (1 : Int32)) n33) <|
    bnd ((H29.D a30 ((x32 - (1 : Int32))).toNatClampNeg)) fun x36 =>
    if x36 = (4 : Int32) then
    B_MText_scans_151 N p0 p1 p2 (fun l3 l4 H => B_MText_scans_37 N p0 p1 p2 n l3 l4 H) v28 0 H29
    else
    B_MText_scans_151 N p0 p1 p2 (fun l3 l4 H => B_MText_scans_37 N p0 p1 p2 n l3 l4 H) v28 1 H29
    else
    bC (F_MText_digits N p0 v9 H22) fun v39 H40 =>
    B_MText_scans_153 N p0 p1 p2 (fun l3 l4 H => B_MText_scans_37 N p0 p1 p2 n l3 l4 H) v39 l4 H40
    else
    bC (F_MText_word N p0 v9 H18) fun v42 H43 =>
    B_MText_scans_153 N p0 p1 p2 (fun l3 l4 H => B_MText_scans_37 N p0 p1 p2 n l3 l4 H) v42 l4 H43
    else
    bnd ((H13.D p0 1)) fun x44 =>
    bnd ((H13.D p0 1)) fun x45 =>
    bC (F_MText_token N p0 (0 : Int32) x44 x45 H13) fun v47 H48 =>
    B_MText_scans_153 N p0 p1 p2 (fun l3 l4 H => B_MText_scans_37 N p0 p1 p2 n l3 l4 H) v9 0 H48
termination_by structural n => n
set_option maxRecDepth 20000 in
set_option maxHeartbeats 2000000 in
theorem mB_MText_scans_37 {N : Nat} {p0 : Nat} {p1 : Nat} {p2 : Int32} : ∀ (n : Nat) (l3 : Int32) (l4 : Int32) (H : Hp) (r : Unit × Hp), B_MText_scans_37 N p0 p1 p2 n l3 l4 H = some r → Sa H r.2 := by
  intro n
  induction n with
  | zero => intro l3 l4 H r hF; rw [B_MText_scans_37] at hF; cases hF
  | succ n ih =>
    intro l3 l4 H r hF
    rw [B_MText_scans_37] at hF
    have hm := Sa.rf H
    rcases ite_s hF with ⟨q_12, hG⟩ | ⟨q_12, hG⟩
    · clear hF
      have hr := Option.some.inj hG; subst hr
      exact hm
    · clear hF
      obtain ⟨q50, hF⟩ := ck_s hG; clear hG
      obtain ⟨v52, H53, z51, hG⟩ := bC_s hF; clear hF
      replace hm : Sa H H53 := hm.tr (m_MText_skips z51)
      obtain ⟨v55, H56, z54, hF⟩ := bC_s hG; clear hG
      replace hm : Sa H H56 := hm.tr (m_MText_letter z54)
      obtain ⟨x57, -, hG⟩ := bnd_g hF; clear hF
      rcases ite_s hG with ⟨q_15, hF⟩ | ⟨q_15, hF⟩
      · clear hG
        obtain ⟨v60, H61, z59, hG⟩ := bC_s hF; clear hF
        replace hm : Sa H H61 := hm.tr (m_MText_isLetter z59)
        rcases ite_s hG with ⟨q_17, hF⟩ | ⟨q_17, hF⟩
        · clear hG
          obtain ⟨v64, H65, z63, hG⟩ := bC_s hF; clear hF
          replace hm : Sa H H65 := hm.tr (m_MText_isDigit z63)
          rcases ite_s hG with ⟨q_19, hF⟩ | ⟨q_19, hF⟩
          · clear hG
            obtain ⟨v68, H69, z67, hG⟩ := bC_s hF; clear hF
            replace hm : Sa H H69 := hm.tr (m_MText_letter z67)
            obtain ⟨v71, H72, z70, hF⟩ := bC_s hG; clear hG
            replace hm : Sa H H72 := hm.tr (m_MText_sign z70)
            obtain ⟨a73, e74, hG⟩ := rf_s hF; clear hF
            obtain ⟨x75, -, hF⟩ := bnd_g hG; clear hG
            obtain ⟨n76, q77, hG⟩ := ar_s hF; clear hF
            obtain ⟨q78, hF⟩ := ck_s hG; clear hG
            obtain ⟨x79, -, hG⟩ := bnd_g hF; clear hF
            rcases ite_s hG with ⟨q_22, hF⟩ | ⟨q_22, hF⟩
            · clear hG
              exact hm.tr (mB_MText_scans_151 ih hF)
            · clear hG
              exact hm.tr (mB_MText_scans_151 ih hF)
          · clear hG
            obtain ⟨v82, H83, z81, hG⟩ := bC_s hF; clear hF
            replace hm : Sa H H83 := hm.tr (m_MText_digits z81)
            exact hm.tr (mB_MText_scans_153 ih hG)
        · clear hG
          obtain ⟨v85, H86, z84, hG⟩ := bC_s hF; clear hF
          replace hm : Sa H H86 := hm.tr (m_MText_word z84)
          exact hm.tr (mB_MText_scans_153 ih hG)
      · clear hG
        obtain ⟨x87, -, hG⟩ := bnd_g hF; clear hF
        obtain ⟨x88, -, hF⟩ := bnd_g hG; clear hG
        obtain ⟨v90, H91, z89, hG⟩ := bC_s hF; clear hF
        replace hm : Sa H H91 := hm.tr (m_MText_token z89)
        exact hm.tr (mB_MText_scans_153 ih hG)
set_option maxRecDepth 20000 in
set_option maxHeartbeats 2000000 in
theorem kB_MText_scans_37 {N : Nat} {p0 : Nat} {p1 : Nat} {p2 : Int32} : ∀ (n : Nat) (l3 : Int32) (l4 : Int32) (H : Hp) (r : Unit × Hp), B_MText_scans_37 N p0 p1 p2 n l3 l4 H = some r → ab_V y_MText_scans { frames := 5, cells := 0, slots := 0, locals := 111 } (po (.returned none) r.2) 0 0 0 0 37 [some (.ref p0), some (.ref p1), some (.int p2), some (.int l3), some (.int l4), none] [] (hpw H) := by
  intro n
  induction n with
  | zero => intro l3 l4 H r hF; rw [B_MText_scans_37] at hF; cases hF
  | succ n ih =>
    intro l3 l4 H r hF
    rw [B_MText_scans_37] at hF
    refine ab_iload d_MText_scans_37 rfl ?_
    refine ab_if_eq (tgt := 156) d_MText_scans_39 (by decide) (fun q6 => ?_) (fun q6 => ?_)
    · rw [if_pos q6] at hF
      exact ab_vret d_MText_scans_156 rfl (Nat.le_refl _) (Nat.le_refl _) (by have hr := Option.some.inj hF; subst hr; exact ⟨rfl, rfl⟩)
    · rw [if_neg q6] at hF
      refine ab_aload_n d_MText_scans_42 rfl rfl rfl ?_
      refine ab_iload_n d_MText_scans_43 rfl rfl ?_
      obtain ⟨q7, hG⟩ := ck_s hF; clear hF
      obtain ⟨v9, H10, z8, hF⟩ := bC_s hG; clear hG
      refine hp_callV_a (v := .int v9) (H1 := H10) (As := [.int l3]) (rest := []) d_MText_scans_44 (k_MText_skips z8) (ab_mkC s_MText_skips (Nat.le_of_ble_eq_true rfl) (Nat.le_of_ble_eq_true rfl) (Nat.le_refl 0) (Nat.le_refl 0)) (k10 112 rfl rfl) i_MText_skips v_MText_skips q7 (by decide) rfl rfl (Nat.le_of_ble_eq_true rfl) ?_
      have s_3 : Sa H H10 := (m_MText_skips z8)
      refine ab_istore_n (lv' := [some (.ref p0), some (.ref p1), some (.int p2), some (.int v9), some (.int l4), none]) d_MText_scans_47 rfl (by decide) rfl ?_
      refine ab_aload_n d_MText_scans_48 rfl rfl rfl ?_
      refine ab_iload_n d_MText_scans_49 rfl rfl ?_
      obtain ⟨v12, H13, z11, hG⟩ := bC_s hF; clear hF
      refine hp_callV_a (v := .int v12) (H1 := H13) (As := [.int v9]) (rest := []) d_MText_scans_50 (k_MText_letter z11) (ab_mkC s_MText_letter (Nat.le_of_ble_eq_true rfl) (Nat.le_of_ble_eq_true rfl) (Nat.le_refl 0) (Nat.le_refl 0)) (k10 116 rfl rfl) i_MText_letter v_MText_letter (by rw [(s_3).1]; exact q7) (by decide) rfl rfl (Nat.le_of_ble_eq_true rfl) ?_
      have s_4 : Sa H H13 := (s_3).tr (m_MText_letter z11)
      refine ab_istore (lv' := [some (.ref p0), some (.ref p1), some (.int p2), some (.int v9), some (.int l4), some (.int v12)]) d_MText_scans_53 (by decide) rfl ?_
      refine ab_iload_n d_MText_scans_55 rfl rfl ?_
      refine ab_aload_n d_MText_scans_56 rfl rfl rfl ?_
      refine hp_getI (f := 1) d_MText_scans_57 (by rw [(s_4).1]; exact q7) (by decide) rfl (by decide) (k8 160 rfl rfl) rfl ?_
      refine ab_topi (fun x14 ex14 => ?_)
      replace hG := bnd_s ex14 hG
      refine ab_icmp_lt (tgt := 82) d_MText_scans_60 (by decide) (fun q15 => ?_) (fun q15 => ?_)
      · rw [if_pos q15] at hG
        refine ab_iload d_MText_scans_82 rfl ?_
        obtain ⟨v17, H18, z16, hF⟩ := bC_s hG; clear hG
        refine hp_callS_a (v := .int v17) (H1 := H18) (As := [.int v12]) (rest := []) d_MText_scans_84 (k_MText_isLetter z16) (ab_mkC s_MText_isLetter (Nat.le_of_ble_eq_true rfl) (Nat.le_of_ble_eq_true rfl) (Nat.le_refl 0) (Nat.le_refl 0)) (k10 124 rfl rfl) t_MText_isLetter rfl (Nat.le_of_ble_eq_true rfl) ?_
        have s_5 : Sa H H18 := (s_4).tr (m_MText_isLetter z16)
        refine ab_if_eq (tgt := 99) d_MText_scans_87 (by decide) (fun q19 => ?_) (fun q19 => ?_)
        · rw [if_pos q19] at hF
          refine ab_iload d_MText_scans_99 rfl ?_
          obtain ⟨v21, H22, z20, hG⟩ := bC_s hF; clear hF
          refine hp_callS_a (v := .int v21) (H1 := H22) (As := [.int v12]) (rest := []) d_MText_scans_101 (k_MText_isDigit z20) (ab_mkC s_MText_isDigit (Nat.le_of_ble_eq_true rfl) (Nat.le_of_ble_eq_true rfl) (Nat.le_refl 0) (Nat.le_refl 0)) (k10 131 rfl rfl) t_MText_isDigit rfl (Nat.le_of_ble_eq_true rfl) ?_
          have s_6 : Sa H H22 := (s_5).tr (m_MText_isDigit z20)
          refine ab_if_eq (tgt := 116) d_MText_scans_104 (by decide) (fun q23 => ?_) (fun q23 => ?_)
          · rw [if_pos q23] at hG
            refine ab_aload_n d_MText_scans_116 rfl rfl rfl ?_
            refine ab_iload_n d_MText_scans_117 rfl rfl ?_
            refine ab_iload d_MText_scans_118 rfl ?_
            refine ab_aload_n d_MText_scans_120 rfl rfl rfl ?_
            refine ab_iload_n d_MText_scans_121 rfl rfl ?_
            refine ab_iconst (v := 1) d_MText_scans_122 (by decide) ?_
            refine ab_iadd d_MText_scans_123 ?_
            obtain ⟨v25, H26, z24, hF⟩ := bC_s hG; clear hG
            refine hp_callV_a (v := .int v25) (H1 := H26) (As := [.int (v9 + (1 : Int32))]) (rest := [.int v12, .int v9, .ref p0]) d_MText_scans_124 (k_MText_letter z24) (ab_mkC s_MText_letter (Nat.le_of_ble_eq_true rfl) (Nat.le_of_ble_eq_true rfl) (Nat.le_refl 0) (Nat.le_refl 0)) (k10 116 rfl rfl) i_MText_letter v_MText_letter (by rw [(s_6).1]; exact q7) (by decide) rfl rfl (Nat.le_of_ble_eq_true rfl) ?_
            have s_7 : Sa H H26 := (s_6).tr (m_MText_letter z24)
            obtain ⟨v28, H29, z27, hG⟩ := bC_s hF; clear hF
            refine hp_callV_a (v := .int v28) (H1 := H29) (As := [.int v9, .int v12, .int v25]) (rest := []) d_MText_scans_127 (k_MText_sign z27) (ab_mkC s_MText_sign (Nat.le_of_ble_eq_true rfl) (Nat.le_of_ble_eq_true rfl) (Nat.le_refl 0) (Nat.le_refl 0)) (k10 148 rfl rfl) i_MText_sign v_MText_sign (by rw [(s_7).1]; exact q7) (by decide) rfl rfl (Nat.le_of_ble_eq_true rfl) ?_
            have s_8 : Sa H H29 := (s_7).tr (m_MText_sign z27)
            refine ab_istore_n (lv' := [some (.ref p0), some (.ref p1), some (.int p2), some (.int v28), some (.int l4), some (.int v12)]) d_MText_scans_130 rfl (by decide) rfl ?_
            refine ab_aload_n d_MText_scans_131 rfl rfl rfl ?_
            obtain ⟨a30, e31, hF⟩ := rf_s hG; clear hG
            refine hp_getR (f := 3) d_MText_scans_132 (by rw [(s_8).1]; exact q7) (by decide) rfl (by decide) (k8 162 rfl rfl) rfl e31 ?_
            refine ab_aload_n d_MText_scans_135 rfl rfl rfl ?_
            refine hp_getI (f := 2) d_MText_scans_136 (by rw [(s_8).1]; exact q7) (by decide) rfl (by decide) (k8 161 rfl rfl) rfl ?_
            refine ab_topi (fun x32 ex32 => ?_)
            replace hF := bnd_s ex32 hF
            refine ab_iconst (v := 1) d_MText_scans_139 (by decide) ?_
            refine ab_isub d_MText_scans_140 ?_
            obtain ⟨n33, q34, hG⟩ := ar_s hF; clear hF
            rw [(s_8).1] at q34
            obtain ⟨q35, hF⟩ := ck_s hG; clear hG
            refine hp_iald d_MText_scans_141 tI (by rw [(s_8).1]; exact q34) q35 ?_
            refine ab_topi (fun x36 ex36 => ?_)
            replace hF := bnd_s ex36 hF
            refine ab_iconst (v := 4) d_MText_scans_142 (by decide) ?_
            refine ab_icmp_eq (tgt := 150) d_MText_scans_143 (by decide) (fun q37 => ?_) (fun q37 => ?_)
            · rw [if_pos q37] at hF
              refine ab_iconst (v := 0) d_MText_scans_150 (by decide) ?_
              refine ab_le (lv' := [some (.ref p0), some (.ref p1), some (.int p2), some (.int v28), none, none]) ⟨rfl, ⟨rfl, ⟨rfl, ⟨rfl, trivial⟩⟩⟩⟩ ?_
              exact kB_MText_scans_151 (mB_MText_scans_37 n) ih hF
            · rw [if_neg q37] at hF
              refine ab_iconst (v := 1) d_MText_scans_146 (by decide) ?_
              refine ab_goto (tgt := 151) d_MText_scans_147 (by decide) ?_
              refine ab_le (lv' := [some (.ref p0), some (.ref p1), some (.int p2), some (.int v28), none, none]) ⟨rfl, ⟨rfl, ⟨rfl, ⟨rfl, trivial⟩⟩⟩⟩ ?_
              exact kB_MText_scans_151 (mB_MText_scans_37 n) ih hF
          · rw [if_neg q23] at hG
            refine ab_aload_n d_MText_scans_107 rfl rfl rfl ?_
            refine ab_iload_n d_MText_scans_108 rfl rfl ?_
            obtain ⟨v39, H40, z38, hF⟩ := bC_s hG; clear hG
            refine hp_callV_a (v := .int v39) (H1 := H40) (As := [.int v9]) (rest := []) d_MText_scans_109 (k_MText_digits z38) (ab_mkC s_MText_digits (Nat.le_of_ble_eq_true rfl) (Nat.le_of_ble_eq_true rfl) (Nat.le_refl 0) (Nat.le_refl 0)) (k10 137 rfl rfl) i_MText_digits v_MText_digits (by rw [(s_6).1]; exact q7) (by decide) rfl rfl (Nat.le_of_ble_eq_true rfl) ?_
            have s_9 : Sa H H40 := (s_6).tr (m_MText_digits z38)
            refine ab_istore_n (lv' := [some (.ref p0), some (.ref p1), some (.int p2), some (.int v39), some (.int l4), some (.int v12)]) d_MText_scans_112 rfl (by decide) rfl ?_
            refine ab_goto (tgt := 153) d_MText_scans_113 (by decide) ?_
            refine ab_le (lv' := [some (.ref p0), some (.ref p1), some (.int p2), some (.int v39), some (.int l4), none]) ⟨rfl, ⟨rfl, ⟨rfl, ⟨rfl, ⟨rfl, trivial⟩⟩⟩⟩⟩ ?_
            exact kB_MText_scans_153 (mB_MText_scans_37 n) ih hF
        · rw [if_neg q19] at hF
          refine ab_aload_n d_MText_scans_90 rfl rfl rfl ?_
          refine ab_iload_n d_MText_scans_91 rfl rfl ?_
          obtain ⟨v42, H43, z41, hG⟩ := bC_s hF; clear hF
          refine hp_callV_a (v := .int v42) (H1 := H43) (As := [.int v9]) (rest := []) d_MText_scans_92 (k_MText_word z41) (ab_mkC s_MText_word (Nat.le_of_ble_eq_true rfl) (Nat.le_of_ble_eq_true rfl) (Nat.le_refl 0) (Nat.le_refl 0)) (k10 127 rfl rfl) i_MText_word v_MText_word (by rw [(s_5).1]; exact q7) (by decide) rfl rfl (Nat.le_of_ble_eq_true rfl) ?_
          have s_10 : Sa H H43 := (s_5).tr (m_MText_word z41)
          refine ab_istore_n (lv' := [some (.ref p0), some (.ref p1), some (.int p2), some (.int v42), some (.int l4), some (.int v12)]) d_MText_scans_95 rfl (by decide) rfl ?_
          refine ab_goto (tgt := 153) d_MText_scans_96 (by decide) ?_
          refine ab_le (lv' := [some (.ref p0), some (.ref p1), some (.int p2), some (.int v42), some (.int l4), none]) ⟨rfl, ⟨rfl, ⟨rfl, ⟨rfl, ⟨rfl, trivial⟩⟩⟩⟩⟩ ?_
          exact kB_MText_scans_153 (mB_MText_scans_37 n) ih hG
      · rw [if_neg q15] at hG
        refine ab_aload_n d_MText_scans_63 rfl rfl rfl ?_
        refine ab_iconst (v := 0) d_MText_scans_64 (by decide) ?_
        refine ab_aload_n d_MText_scans_65 rfl rfl rfl ?_
        refine hp_getI (f := 1) d_MText_scans_66 (by rw [(s_4).1]; exact q7) (by decide) rfl (by decide) (k8 160 rfl rfl) rfl ?_
        refine ab_topi (fun x44 ex44 => ?_)
        replace hG := bnd_s ex44 hG
        refine ab_aload_n d_MText_scans_69 rfl rfl rfl ?_
        refine hp_getI (f := 1) d_MText_scans_70 (by rw [(s_4).1]; exact q7) (by decide) rfl (by decide) (k8 160 rfl rfl) rfl ?_
        refine ab_topi (fun x45 ex45 => ?_)
        replace hG := bnd_s ex45 hG
        obtain ⟨v47, H48, z46, hF⟩ := bC_s hG; clear hG
        refine hp_callV_v (H1 := H48) (As := [.int 0, .int x44, .int x45]) (rest := []) d_MText_scans_73 (k_MText_token z46) (ab_mkC s_MText_token (Nat.le_of_ble_eq_true rfl) (Nat.le_of_ble_eq_true rfl) (Nat.le_refl 0) (Nat.le_refl 0)) (k10 120 rfl rfl) i_MText_token v_MText_token (by rw [(s_4).1]; exact q7) (by decide) rfl rfl (Nat.le_of_ble_eq_true rfl) ?_
        have s_11 : Sa H H48 := (s_4).tr (m_MText_token z46)
        refine ab_iconst (v := 0) d_MText_scans_76 (by decide) ?_
        refine ab_istore (lv' := [some (.ref p0), some (.ref p1), some (.int p2), some (.int v9), some (.int 0), some (.int v12)]) d_MText_scans_77 (by decide) rfl ?_
        refine ab_goto (tgt := 153) d_MText_scans_79 (by decide) ?_
        refine ab_le (lv' := [some (.ref p0), some (.ref p1), some (.int p2), some (.int v9), some (.int 0), none]) ⟨rfl, ⟨rfl, ⟨rfl, ⟨rfl, ⟨rfl, trivial⟩⟩⟩⟩⟩ ?_
        exact kB_MText_scans_153 (mB_MText_scans_37 n) ih hF
def B_MText_scans_7 (N : Nat) (p0 : Nat) (p1 : Nat) (p2 : Int32) : Nat → Int32 → Hp → Option (Unit × Hp)
  | 0, _, _ => none
  | n + 1, l3, H =>
    if p2 ≤ l3 then
    ck (H.sh[p0]? = some (14, 0)) <|
    bnd (H.sD p0 2 (0 : Int32)) fun H5 =>
    B_MText_scans_37 N p0 p1 p2 N 0 1 H5
    else
    ck (H.sh[p0]? = some (14, 0)) <|
    rf (H.P p0 0) fun a93 =>
    ar H 101 p1 fun n95 =>
    ck (inb l3 n95) <|
    bnd ((H.D p1 (l3).toNatClampNeg)) fun x98 =>
    ar H 101 a93 fun n99 =>
    ck (inb l3 n99) <|
    bnd (H.sD a93 (l3).toNatClampNeg (vp_nar .byte x98)) fun H102 =>
    B_MText_scans_7 N p0 p1 p2 n (l3 + 1) H102
termination_by structural n => n
set_option maxRecDepth 20000 in
set_option maxHeartbeats 2000000 in
theorem mB_MText_scans_7 {N : Nat} {p0 : Nat} {p1 : Nat} {p2 : Int32} : ∀ (n : Nat) (l3 : Int32) (H : Hp) (r : Unit × Hp), B_MText_scans_7 N p0 p1 p2 n l3 H = some r → Sa H r.2 := by
  intro n
  induction n with
  | zero => intro l3 H r hF; rw [B_MText_scans_7] at hF; cases hF
  | succ n ih =>
    intro l3 H r hF
    rw [B_MText_scans_7] at hF
    have hm := Sa.rf H
    rcases ite_s hF with ⟨q_27, hG⟩ | ⟨q_27, hG⟩
    · clear hF
      obtain ⟨q104, hF⟩ := ck_s hG; clear hG
      obtain ⟨H105, eH105, hG⟩ := bnd_g hF; clear hF
      replace hm : Sa H H105 := by rw [eH105]; exact hm
      exact hm.tr (mB_MText_scans_37 N 0 1 H105 r hG)
    · clear hF
      obtain ⟨q106, hF⟩ := ck_s hG; clear hG
      obtain ⟨a107, e108, hG⟩ := rf_s hF; clear hF
      obtain ⟨n109, q110, hF⟩ := ar_s hG; clear hG
      obtain ⟨q111, hG⟩ := ck_s hF; clear hF
      obtain ⟨x112, -, hF⟩ := bnd_g hG; clear hG
      obtain ⟨n113, q114, hG⟩ := ar_s hF; clear hF
      obtain ⟨q115, hF⟩ := ck_s hG; clear hG
      obtain ⟨H116, eH116, hG⟩ := bnd_g hF; clear hF
      replace hm : Sa H H116 := by rw [eH116]; exact hm
      exact hm.tr (ih (l3 + 1) H116 r hG)
set_option maxRecDepth 20000 in
set_option maxHeartbeats 2000000 in
theorem kB_MText_scans_7 {N : Nat} {p0 : Nat} {p1 : Nat} {p2 : Int32} : ∀ (n : Nat) (l3 : Int32) (H : Hp) (r : Unit × Hp), B_MText_scans_7 N p0 p1 p2 n l3 H = some r → ab_V y_MText_scans { frames := 5, cells := 0, slots := 0, locals := 111 } (po (.returned none) r.2) 0 0 0 0 7 [some (.ref p0), some (.ref p1), some (.int p2), some (.int l3), none, none] [] (hpw H) := by
  intro n
  induction n with
  | zero => intro l3 H r hF; rw [B_MText_scans_7] at hF; cases hF
  | succ n ih =>
    intro l3 H r hF
    rw [B_MText_scans_7] at hF
    refine ab_iload_n d_MText_scans_7 rfl rfl ?_
    refine ab_iload_n d_MText_scans_8 rfl rfl ?_
    refine ab_icmp_ge (tgt := 27) d_MText_scans_9 (by decide) (fun q3 => ?_) (fun q3 => ?_)
    · rw [if_pos q3] at hF
      refine ab_aload_n d_MText_scans_27 rfl rfl rfl ?_
      refine ab_iconst (v := 0) d_MText_scans_28 (by decide) ?_
      obtain ⟨q4, hG⟩ := ck_s hF; clear hF
      refine hp_putI (v := 0) (f := 2) d_MText_scans_29 q4 (by decide) rfl (by decide) (k8 161 rfl rfl) rfl rfl (fun _ => rfl) (fun _ => rfl) rfl ?_
      refine hp_gen (fun H5 eH5 => ?_)
      replace hG := bnd_s eH5 hG
      have s_2 : Sa H H5 := by rw [eH5]; exact Sa.rf _
      refine ab_iconst (v := 0) d_MText_scans_32 (by decide) ?_
      refine ab_istore_n (lv' := [some (.ref p0), some (.ref p1), some (.int p2), some (.int 0), none, none]) d_MText_scans_33 rfl (by decide) rfl ?_
      refine ab_iconst (v := 1) d_MText_scans_34 (by decide) ?_
      refine ab_istore (lv' := [some (.ref p0), some (.ref p1), some (.int p2), some (.int 0), some (.int 1), none]) d_MText_scans_35 (by decide) rfl ?_
      exact kB_MText_scans_37 N 0 1 H5 r hG
    · rw [if_neg q3] at hF
      refine ab_aload_n d_MText_scans_12 rfl rfl rfl ?_
      obtain ⟨q92, hG⟩ := ck_s hF; clear hF
      obtain ⟨a93, e94, hF⟩ := rf_s hG; clear hG
      refine hp_getR (f := 0) d_MText_scans_13 q92 (by decide) rfl (by decide) (k8 159 rfl rfl) rfl e94 ?_
      refine ab_iload_n d_MText_scans_16 rfl rfl ?_
      refine ab_aload_n d_MText_scans_17 rfl rfl rfl ?_
      refine ab_iload_n d_MText_scans_18 rfl rfl ?_
      obtain ⟨n95, q96, hG⟩ := ar_s hF; clear hF
      obtain ⟨q97, hF⟩ := ck_s hG; clear hG
      refine hp_bald d_MText_scans_19 tB q96 q97 ?_
      refine ab_topi (fun x98 ex98 => ?_)
      replace hF := bnd_s ex98 hF
      obtain ⟨n99, q100, hG⟩ := ar_s hF; clear hF
      obtain ⟨q101, hF⟩ := ck_s hG; clear hG
      refine hp_bast d_MText_scans_20 tB q100 q101 ?_
      refine hp_gen (fun H102 eH102 => ?_)
      replace hF := bnd_s eH102 hF
      have s_26 : Sa H H102 := by rw [eH102]; exact Sa.rf _
      refine ab_iinc (v := l3 + 1) (lv' := [some (.ref p0), some (.ref p1), some (.int p2), some (.int (l3 + 1)), none, none]) d_MText_scans_21 rfl rfl (by decide) rfl ?_
      refine ab_goto (tgt := 7) d_MText_scans_24 (by decide) ?_
      exact ih (l3 + 1) H102 r hF
def F_MText_scans (N : Nat) (p0 : Nat) (p1 : Nat) (p2 : Int32) (H : Hp) : Option (Unit × Hp) :=
    ck (H.sh[p0]? = some (14, 0)) <|
    bnd (H.sD p0 1 p2) fun H2 =>
    B_MText_scans_7 N p0 p1 p2 N 0 H2
set_option maxRecDepth 20000 in
set_option maxHeartbeats 2000000 in
theorem m_MText_scans {N : Nat} {p0 : Nat} {p1 : Nat} {p2 : Int32} {H : Hp} {r : Unit × Hp} (hF : F_MText_scans N p0 p1 p2 H = some r) : Sa H r.2 := by
  unfold F_MText_scans at hF
  have hm := Sa.rf H
  obtain ⟨q117, hG⟩ := ck_s hF; clear hF
  obtain ⟨H118, eH118, hF⟩ := bnd_g hG; clear hG
  replace hm : Sa H H118 := by rw [eH118]; exact hm
  exact hm.tr (mB_MText_scans_7 N 0 H118 r hF)
set_option maxRecDepth 20000 in
set_option maxHeartbeats 2000000 in
theorem k_MText_scans {N : Nat} {p0 : Nat} {p1 : Nat} {p2 : Int32} {H : Hp} {r : Unit × Hp} (hF : F_MText_scans N p0 p1 p2 H = some r) : ab_M y_MText_scans { frames := 5, cells := 0, slots := 0, locals := 111 } [.ref p0, .ref p1, .int p2] (hpw H) (po (.returned none) r.2) := by
  unfold F_MText_scans at hF
  refine ab_of2 (lv := [some (.ref p0), some (.ref p1), some (.int p2), none, none, none]) 3 rfl rfl (Nat.le_of_ble_eq_true rfl) ?_
  refine ab_aload_n d_MText_scans_0 rfl rfl rfl ?_
  refine ab_iload_n d_MText_scans_1 rfl rfl ?_
  obtain ⟨q1, hG⟩ := ck_s hF; clear hF
  refine hp_putI (v := p2) (f := 1) d_MText_scans_2 q1 (by decide) rfl (by decide) (k8 160 rfl rfl) rfl rfl (fun _ => rfl) (fun _ => rfl) rfl ?_
  refine hp_gen (fun H2 eH2 => ?_)
  replace hG := bnd_s eH2 hG
  have s_1 : Sa H H2 := by rw [eH2]; exact Sa.rf _
  refine ab_iconst (v := 0) d_MText_scans_5 (by decide) ?_
  refine ab_istore_n (lv' := [some (.ref p0), some (.ref p1), some (.int p2), some (.int 0), none, none]) d_MText_scans_6 rfl (by decide) rfl ?_
  exact kB_MText_scans_7 N 0 H2 r hG
def y_MText_fails : ab_Y := (⟨"WorldEngineModel$Text", "fails", "(II)V"⟩, prog_16_method_17_code, 3, none, [])
theorem d_MText_fails_0 : decode y_MText_fails.2.1 0 = .ok (.aload_n 0, 1) := by decide +kernel
theorem d_MText_fails_1 : decode y_MText_fails.2.1 1 = .ok (.getfield 185, 3) := by decide +kernel
theorem d_MText_fails_4 : decode y_MText_fails.2.1 4 = .ok (.ifCond .le 4, 3) := by decide +kernel
theorem d_MText_fails_7 : decode y_MText_fails.2.1 7 = .ok (.return_, 1) := by decide +kernel
theorem d_MText_fails_8 : decode y_MText_fails.2.1 8 = .ok (.aload_n 0, 1) := by decide +kernel
theorem d_MText_fails_9 : decode y_MText_fails.2.1 9 = .ok (.iload_n 1, 1) := by decide +kernel
theorem d_MText_fails_10 : decode y_MText_fails.2.1 10 = .ok (.putfield 185, 3) := by decide +kernel
theorem d_MText_fails_13 : decode y_MText_fails.2.1 13 = .ok (.aload_n 0, 1) := by decide +kernel
theorem d_MText_fails_14 : decode y_MText_fails.2.1 14 = .ok (.aload_n 0, 1) := by decide +kernel
theorem d_MText_fails_15 : decode y_MText_fails.2.1 15 = .ok (.getfield 19, 3) := by decide +kernel
theorem d_MText_fails_18 : decode y_MText_fails.2.1 18 = .ok (.iload_n 2, 1) := by decide +kernel
theorem d_MText_fails_19 : decode y_MText_fails.2.1 19 = .ok (.iaload, 1) := by decide +kernel
theorem d_MText_fails_20 : decode y_MText_fails.2.1 20 = .ok (.putfield 188, 3) := by decide +kernel
theorem d_MText_fails_23 : decode y_MText_fails.2.1 23 = .ok (.return_, 1) := by decide +kernel
theorem s_MText_fails : ab_Stat y_MText_fails 2 := ⟨(k10 163 rfl rfl), (k1 20 rfl rfl), ⟨by decide, by decide⟩, by decide +kernel⟩
theorem i_MText_fails : Cond.instanceMethod y_MText_fails.1 ∈ ab_T := (k10 162 rfl rfl)
theorem v_MText_fails : Cond.selects "WorldEngineModel$Text" y_MText_fails.1 y_MText_fails.1 ∈ ab_T := ab_s (List.mem_of_getElem? (i := 116) rfl) rfl
def F_MText_fails (N : Nat) (p0 : Nat) (p1 : Int32) (p2 : Int32) (H : Hp) : Option (Unit × Hp) :=
    ck (H.sh[p0]? = some (14, 0)) <|
    bnd ((H.D p0 9)) fun x2 =>
    if x2 ≤ (0 : Int32) then
    bnd (H.sD p0 9 p1) fun H4 =>
    rf (H4.P p0 4) fun a5 =>
    ar H4 100 a5 fun n7 =>
    ck (inb p2 n7) <|
    bnd ((H4.D a5 (p2).toNatClampNeg)) fun x10 =>
    bnd (H4.sD p0 10 x10) fun H11 =>
    some ((), H11)
    else
    some ((), H)
set_option maxRecDepth 20000 in
set_option maxHeartbeats 2000000 in
theorem m_MText_fails {N : Nat} {p0 : Nat} {p1 : Int32} {p2 : Int32} {H : Hp} {r : Unit × Hp} (hF : F_MText_fails N p0 p1 p2 H = some r) : Sa H r.2 := by
  unfold F_MText_fails at hF
  have hm := Sa.rf H
  obtain ⟨q12, hG⟩ := ck_s hF; clear hF
  obtain ⟨x13, -, hF⟩ := bnd_g hG; clear hG
  rcases ite_s hF with ⟨q_3, hG⟩ | ⟨q_3, hG⟩
  · clear hF
    obtain ⟨H15, eH15, hF⟩ := bnd_g hG; clear hG
    replace hm : Sa H H15 := by rw [eH15]; exact hm
    obtain ⟨a16, e17, hG⟩ := rf_s hF; clear hF
    obtain ⟨n18, q19, hF⟩ := ar_s hG; clear hG
    obtain ⟨q20, hG⟩ := ck_s hF; clear hF
    obtain ⟨x21, -, hF⟩ := bnd_g hG; clear hG
    obtain ⟨H22, eH22, hG⟩ := bnd_g hF; clear hF
    replace hm : Sa H H22 := by rw [eH22]; exact hm
    have hr := Option.some.inj hG; subst hr
    exact hm
  · clear hF
    have hr := Option.some.inj hG; subst hr
    exact hm
set_option maxRecDepth 20000 in
set_option maxHeartbeats 2000000 in
theorem k_MText_fails {N : Nat} {p0 : Nat} {p1 : Int32} {p2 : Int32} {H : Hp} {r : Unit × Hp} (hF : F_MText_fails N p0 p1 p2 H = some r) : ab_M y_MText_fails { frames := 0, cells := 0, slots := 0, locals := 0 } [.ref p0, .int p1, .int p2] (hpw H) (po (.returned none) r.2) := by
  unfold F_MText_fails at hF
  refine ab_of2 (lv := [some (.ref p0), some (.int p1), some (.int p2)]) 0 rfl rfl (Nat.le_of_ble_eq_true rfl) ?_
  refine ab_aload_n d_MText_fails_0 rfl rfl rfl ?_
  obtain ⟨q1, hG⟩ := ck_s hF; clear hF
  refine hp_getI (f := 9) d_MText_fails_1 q1 (by decide) rfl (by decide) (k8 172 rfl rfl) rfl ?_
  refine ab_topi (fun x2 ex2 => ?_)
  replace hG := bnd_s ex2 hG
  refine ab_if_le (tgt := 8) d_MText_fails_4 (by decide) (fun q3 => ?_) (fun q3 => ?_)
  · rw [if_pos q3] at hG
    refine ab_aload_n d_MText_fails_8 rfl rfl rfl ?_
    refine ab_iload_n d_MText_fails_9 rfl rfl ?_
    refine hp_putI (v := p1) (f := 9) d_MText_fails_10 q1 (by decide) rfl (by decide) (k8 172 rfl rfl) rfl rfl (fun _ => rfl) (fun _ => rfl) rfl ?_
    refine hp_gen (fun H4 eH4 => ?_)
    replace hG := bnd_s eH4 hG
    have s_1 : Sa H H4 := by rw [eH4]; exact Sa.rf _
    refine ab_aload_n d_MText_fails_13 rfl rfl rfl ?_
    refine ab_aload_n d_MText_fails_14 rfl rfl rfl ?_
    obtain ⟨a5, e6, hF⟩ := rf_s hG; clear hG
    refine hp_getR (f := 4) d_MText_fails_15 (by rw [(s_1).1]; exact q1) (by decide) rfl (by decide) (k8 164 rfl rfl) rfl e6 ?_
    refine ab_iload_n d_MText_fails_18 rfl rfl ?_
    obtain ⟨n7, q8, hG⟩ := ar_s hF; clear hF
    rw [(s_1).1] at q8
    obtain ⟨q9, hF⟩ := ck_s hG; clear hG
    refine hp_iald d_MText_fails_19 tI (by rw [(s_1).1]; exact q8) q9 ?_
    refine ab_topi (fun x10 ex10 => ?_)
    replace hF := bnd_s ex10 hF
    refine hp_putI (v := x10) (f := 10) d_MText_fails_20 (by rw [(s_1).1]; exact q1) (by decide) rfl (by decide) (k8 174 rfl rfl) rfl rfl (fun _ => rfl) (fun _ => rfl) rfl ?_
    refine hp_gen (fun H11 eH11 => ?_)
    replace hF := bnd_s eH11 hF
    have s_2 : Sa H H11 := by rw [eH11]; exact s_1
    exact ab_vret d_MText_fails_23 rfl (Nat.le_refl _) (Nat.le_refl _) (by have hr := Option.some.inj hF; subst hr; exact ⟨rfl, rfl⟩)
  · rw [if_neg q3] at hG
    exact ab_vret d_MText_fails_7 rfl (Nat.le_refl _) (Nat.le_refl _) (by have hr := Option.some.inj hG; subst hr; exact ⟨rfl, rfl⟩)
def y_MText_begins : ab_Y := (⟨"WorldEngineModel$Text", "begins", "(II)V"⟩, prog_16_method_25_code, 3, none, [])
theorem d_MText_begins_0 : decode y_MText_begins.2.1 0 = .ok (.iload_n 1, 1) := by decide +kernel
theorem d_MText_begins_1 : decode y_MText_begins.2.1 1 = .ok (.iload_n 2, 1) := by decide +kernel
theorem d_MText_begins_2 : decode y_MText_begins.2.1 2 = .ok (.if_icmp .ne 12, 3) := by decide +kernel
theorem d_MText_begins_5 : decode y_MText_begins.2.1 5 = .ok (.aload_n 0, 1) := by decide +kernel
theorem d_MText_begins_6 : decode y_MText_begins.2.1 6 = .ok (.iconst 2, 1) := by decide +kernel
theorem d_MText_begins_7 : decode y_MText_begins.2.1 7 = .ok (.aload_n 0, 1) := by decide +kernel
theorem d_MText_begins_8 : decode y_MText_begins.2.1 8 = .ok (.getfield 191, 3) := by decide +kernel
theorem d_MText_begins_11 : decode y_MText_begins.2.1 11 = .ok (.invokevirtual 200, 3) := by decide +kernel
theorem d_MText_begins_14 : decode y_MText_begins.2.1 14 = .ok (.aload_n 0, 1) := by decide +kernel
theorem d_MText_begins_15 : decode y_MText_begins.2.1 15 = .ok (.dup, 1) := by decide +kernel
theorem d_MText_begins_16 : decode y_MText_begins.2.1 16 = .ok (.getfield 191, 3) := by decide +kernel
theorem d_MText_begins_19 : decode y_MText_begins.2.1 19 = .ok (.aload_n 0, 1) := by decide +kernel
theorem d_MText_begins_20 : decode y_MText_begins.2.1 20 = .ok (.getfield 185, 3) := by decide +kernel
theorem d_MText_begins_23 : decode y_MText_begins.2.1 23 = .ok (.ifCond .ne 7, 3) := by decide +kernel
theorem d_MText_begins_26 : decode y_MText_begins.2.1 26 = .ok (.iconst 1, 1) := by decide +kernel
theorem d_MText_begins_27 : decode y_MText_begins.2.1 27 = .ok (.goto 4, 3) := by decide +kernel
theorem d_MText_begins_30 : decode y_MText_begins.2.1 30 = .ok (.iconst 0, 1) := by decide +kernel
theorem d_MText_begins_31 : decode y_MText_begins.2.1 31 = .ok (.iadd, 1) := by decide +kernel
theorem d_MText_begins_32 : decode y_MText_begins.2.1 32 = .ok (.putfield 191, 3) := by decide +kernel
theorem d_MText_begins_35 : decode y_MText_begins.2.1 35 = .ok (.return_, 1) := by decide +kernel
theorem s_MText_begins : ab_Stat y_MText_begins 2 := ⟨(k10 159 rfl rfl), (k1 20 rfl rfl), ⟨by decide, by decide⟩, by decide +kernel⟩
theorem i_MText_begins : Cond.instanceMethod y_MText_begins.1 ∈ ab_T := (k10 158 rfl rfl)
theorem v_MText_begins : Cond.selects "WorldEngineModel$Text" y_MText_begins.1 y_MText_begins.1 ∈ ab_T := ab_s (List.mem_of_getElem? (i := 115) rfl) rfl
def B_MText_begins_14 (N : Nat) (p0 : Nat) (p1 : Int32) (p2 : Int32)  (H : Hp) : Option (Unit × Hp) :=
    ck (H.sh[p0]? = some (14, 0)) <|
    bnd ((H.D p0 11)) fun x3 =>
    bnd ((H.D p0 9)) fun x4 =>
    if x4 = (0 : Int32) then
    bnd (H.sD p0 11 (x3 + (1 : Int32))) fun H7 =>
    some ((), H7)
    else
    bnd (H.sD p0 11 (x3 + (0 : Int32))) fun H6 =>
    some ((), H6)
set_option maxRecDepth 20000 in
set_option maxHeartbeats 2000000 in
theorem mB_MText_begins_14 {N : Nat} {p0 : Nat} {p1 : Int32} {p2 : Int32}  {H : Hp} {r : Unit × Hp} (hF : B_MText_begins_14 N p0 p1 p2  H = some r) : Sa H r.2 := by
  unfold B_MText_begins_14 at hF
  have hm := Sa.rf H
  obtain ⟨q8, hG⟩ := ck_s hF; clear hF
  obtain ⟨x9, -, hF⟩ := bnd_g hG; clear hG
  obtain ⟨x10, -, hG⟩ := bnd_g hF; clear hF
  rcases ite_s hG with ⟨q_3, hF⟩ | ⟨q_3, hF⟩
  · clear hG
    obtain ⟨H12, eH12, hG⟩ := bnd_g hF; clear hF
    replace hm : Sa H H12 := by rw [eH12]; exact hm
    have hr := Option.some.inj hG; subst hr
    exact hm
  · clear hG
    obtain ⟨H13, eH13, hG⟩ := bnd_g hF; clear hF
    replace hm : Sa H H13 := by rw [eH13]; exact hm
    have hr := Option.some.inj hG; subst hr
    exact hm
set_option maxRecDepth 20000 in
set_option maxHeartbeats 2000000 in
theorem kB_MText_begins_14 {N : Nat} {p0 : Nat} {p1 : Int32} {p2 : Int32}  {H : Hp} {r : Unit × Hp} (hF : B_MText_begins_14 N p0 p1 p2  H = some r) : ab_V y_MText_begins { frames := 1, cells := 0, slots := 0, locals := 22 } (po (.returned none) r.2) 0 0 0 0 14 [some (.ref p0), some (.int p1), some (.int p2)] [] (hpw H) := by
  unfold B_MText_begins_14 at hF
  refine ab_aload_n d_MText_begins_14 rfl rfl rfl ?_
  refine ab_dup d_MText_begins_15 rfl ?_
  obtain ⟨q2, hG⟩ := ck_s hF; clear hF
  refine hp_getI (f := 11) d_MText_begins_16 q2 (by decide) rfl (by decide) (k8 175 rfl rfl) rfl ?_
  refine ab_topi (fun x3 ex3 => ?_)
  replace hG := bnd_s ex3 hG
  refine ab_aload_n d_MText_begins_19 rfl rfl rfl ?_
  refine hp_getI (f := 9) d_MText_begins_20 q2 (by decide) rfl (by decide) (k8 172 rfl rfl) rfl ?_
  refine ab_topi (fun x4 ex4 => ?_)
  replace hG := bnd_s ex4 hG
  refine ab_if_ne (tgt := 30) d_MText_begins_23 (by decide) (fun q5 => ?_) (fun q5 => ?_)
  · rw [if_neg q5] at hG
    refine ab_iconst (v := 0) d_MText_begins_30 (by decide) ?_
    refine ab_iadd d_MText_begins_31 ?_
    refine hp_putI (v := x3 + (0 : Int32)) (f := 11) d_MText_begins_32 q2 (by decide) rfl (by decide) (k8 175 rfl rfl) rfl rfl (fun _ => rfl) (fun _ => rfl) rfl ?_
    refine hp_gen (fun H6 eH6 => ?_)
    replace hG := bnd_s eH6 hG
    have s_1 : Sa H H6 := by rw [eH6]; exact Sa.rf _
    exact ab_vret d_MText_begins_35 rfl (Nat.le_refl _) (Nat.le_refl _) (by have hr := Option.some.inj hG; subst hr; exact ⟨rfl, rfl⟩)
  · rw [if_pos q5] at hG
    refine ab_iconst (v := 1) d_MText_begins_26 (by decide) ?_
    refine ab_goto (tgt := 31) d_MText_begins_27 (by decide) ?_
    refine ab_iadd d_MText_begins_31 ?_
    refine hp_putI (v := x3 + (1 : Int32)) (f := 11) d_MText_begins_32 q2 (by decide) rfl (by decide) (k8 175 rfl rfl) rfl rfl (fun _ => rfl) (fun _ => rfl) rfl ?_
    refine hp_gen (fun H7 eH7 => ?_)
    replace hG := bnd_s eH7 hG
    have s_2 : Sa H H7 := by rw [eH7]; exact Sa.rf _
    exact ab_vret d_MText_begins_35 rfl (Nat.le_refl _) (Nat.le_refl _) (by have hr := Option.some.inj hG; subst hr; exact ⟨rfl, rfl⟩)
def F_MText_begins (N : Nat) (p0 : Nat) (p1 : Int32) (p2 : Int32) (H : Hp) : Option (Unit × Hp) :=
    if p1 = p2 then
    ck (H.sh[p0]? = some (14, 0)) <|
    bnd ((H.D p0 11)) fun x15 =>
    bC (F_MText_fails N p0 (2 : Int32) x15 H) fun v17 H18 =>
    B_MText_begins_14 N p0 p1 p2  H18
    else
    B_MText_begins_14 N p0 p1 p2  H
set_option maxRecDepth 20000 in
set_option maxHeartbeats 2000000 in
theorem m_MText_begins {N : Nat} {p0 : Nat} {p1 : Int32} {p2 : Int32} {H : Hp} {r : Unit × Hp} (hF : F_MText_begins N p0 p1 p2 H = some r) : Sa H r.2 := by
  unfold F_MText_begins at hF
  have hm := Sa.rf H
  rcases ite_s hF with ⟨q_7, hG⟩ | ⟨q_7, hG⟩
  · clear hF
    obtain ⟨q20, hF⟩ := ck_s hG; clear hG
    obtain ⟨x21, -, hG⟩ := bnd_g hF; clear hF
    obtain ⟨v23, H24, z22, hF⟩ := bC_s hG; clear hG
    replace hm : Sa H H24 := hm.tr (m_MText_fails z22)
    exact hm.tr (mB_MText_begins_14 hF)
  · clear hF
    exact hm.tr (mB_MText_begins_14 hG)
set_option maxRecDepth 20000 in
set_option maxHeartbeats 2000000 in
theorem k_MText_begins {N : Nat} {p0 : Nat} {p1 : Int32} {p2 : Int32} {H : Hp} {r : Unit × Hp} (hF : F_MText_begins N p0 p1 p2 H = some r) : ab_M y_MText_begins { frames := 1, cells := 0, slots := 0, locals := 22 } [.ref p0, .int p1, .int p2] (hpw H) (po (.returned none) r.2) := by
  unfold F_MText_begins at hF
  refine ab_of2 (lv := [some (.ref p0), some (.int p1), some (.int p2)]) 0 rfl rfl (Nat.le_of_ble_eq_true rfl) ?_
  refine ab_iload_n d_MText_begins_0 rfl rfl ?_
  refine ab_iload_n d_MText_begins_1 rfl rfl ?_
  refine ab_icmp_ne (tgt := 14) d_MText_begins_2 (by decide) (fun q1 => ?_) (fun q1 => ?_)
  · rw [if_neg q1] at hF
    exact kB_MText_begins_14 hF
  · rw [if_pos q1] at hF
    refine ab_aload_n d_MText_begins_5 rfl rfl rfl ?_
    refine ab_iconst (v := 2) d_MText_begins_6 (by decide) ?_
    refine ab_aload_n d_MText_begins_7 rfl rfl rfl ?_
    obtain ⟨q14, hG⟩ := ck_s hF; clear hF
    refine hp_getI (f := 11) d_MText_begins_8 q14 (by decide) rfl (by decide) (k8 175 rfl rfl) rfl ?_
    refine ab_topi (fun x15 ex15 => ?_)
    replace hG := bnd_s ex15 hG
    obtain ⟨v17, H18, z16, hF⟩ := bC_s hG; clear hG
    refine hp_callV_v (H1 := H18) (As := [.int 2, .int x15]) (rest := []) d_MText_begins_11 (k_MText_fails z16) (ab_mkC s_MText_fails (Nat.le_of_ble_eq_true rfl) (Nat.le_of_ble_eq_true rfl) (Nat.le_refl 0) (Nat.le_refl 0)) (k10 160 rfl rfl) i_MText_fails v_MText_fails q14 (by decide) rfl rfl (Nat.le_of_ble_eq_true rfl) ?_
    have s_6 : Sa H H18 := (m_MText_fails z16)
    exact kB_MText_begins_14 hF
def y_MText_is : ab_Y := (⟨"WorldEngineModel$Text", "is", "(I)Z"⟩, prog_16_method_18_code, 2, (some FieldType.boolean), [])
theorem d_MText_is_0 : decode y_MText_is.2.1 0 = .ok (.aload_n 0, 1) := by decide +kernel
theorem d_MText_is_1 : decode y_MText_is.2.1 1 = .ok (.getfield 185, 3) := by decide +kernel
theorem d_MText_is_4 : decode y_MText_is.2.1 4 = .ok (.ifCond .ne 20, 3) := by decide +kernel
theorem d_MText_is_7 : decode y_MText_is.2.1 7 = .ok (.aload_n 0, 1) := by decide +kernel
theorem d_MText_is_8 : decode y_MText_is.2.1 8 = .ok (.getfield 15, 3) := by decide +kernel
theorem d_MText_is_11 : decode y_MText_is.2.1 11 = .ok (.aload_n 0, 1) := by decide +kernel
theorem d_MText_is_12 : decode y_MText_is.2.1 12 = .ok (.getfield 191, 3) := by decide +kernel
theorem d_MText_is_15 : decode y_MText_is.2.1 15 = .ok (.iaload, 1) := by decide +kernel
theorem d_MText_is_16 : decode y_MText_is.2.1 16 = .ok (.iload_n 1, 1) := by decide +kernel
theorem d_MText_is_17 : decode y_MText_is.2.1 17 = .ok (.if_icmp .ne 7, 3) := by decide +kernel
theorem d_MText_is_20 : decode y_MText_is.2.1 20 = .ok (.iconst 1, 1) := by decide +kernel
theorem d_MText_is_21 : decode y_MText_is.2.1 21 = .ok (.goto 4, 3) := by decide +kernel
theorem d_MText_is_24 : decode y_MText_is.2.1 24 = .ok (.iconst 0, 1) := by decide +kernel
theorem d_MText_is_25 : decode y_MText_is.2.1 25 = .ok (.ireturn, 1) := by decide +kernel
theorem s_MText_is : ab_Stat y_MText_is 1 := ⟨(k10 183 rfl rfl), (k1 20 rfl rfl), ⟨by decide, by decide⟩, by decide +kernel⟩
theorem i_MText_is : Cond.instanceMethod y_MText_is.1 ∈ ab_T := (k10 182 rfl rfl)
theorem v_MText_is : Cond.selects "WorldEngineModel$Text" y_MText_is.1 y_MText_is.1 ∈ ab_T := ab_s (List.mem_of_getElem? (i := 121) rfl) rfl
def F_MText_is (N : Nat) (p0 : Nat) (p1 : Int32) (H : Hp) : Option (Int32 × Hp) :=
    ck (H.sh[p0]? = some (14, 0)) <|
    bnd ((H.D p0 9)) fun x2 =>
    if x2 = (0 : Int32) then
    rf (H.P p0 3) fun a4 =>
    bnd ((H.D p0 11)) fun x6 =>
    ar H 100 a4 fun n7 =>
    ck (inb x6 n7) <|
    bnd ((H.D a4 (x6).toNatClampNeg)) fun x10 =>
    if x10 = p1 then
    some (1, H)
    else
    some (0, H)
    else
    some (0, H)
set_option maxRecDepth 20000 in
set_option maxHeartbeats 2000000 in
theorem m_MText_is {N : Nat} {p0 : Nat} {p1 : Int32} {H : Hp} {r : Int32 × Hp} (hF : F_MText_is N p0 p1 H = some r) : Sa H r.2 := by
  unfold F_MText_is at hF
  have hm := Sa.rf H
  obtain ⟨q12, hG⟩ := ck_s hF; clear hF
  obtain ⟨x13, -, hF⟩ := bnd_g hG; clear hG
  rcases ite_s hF with ⟨q_1, hG⟩ | ⟨q_1, hG⟩
  · clear hF
    obtain ⟨a15, e16, hF⟩ := rf_s hG; clear hG
    obtain ⟨x17, -, hG⟩ := bnd_g hF; clear hF
    obtain ⟨n18, q19, hF⟩ := ar_s hG; clear hG
    obtain ⟨q20, hG⟩ := ck_s hF; clear hF
    obtain ⟨x21, -, hF⟩ := bnd_g hG; clear hG
    rcases ite_s hF with ⟨q_2, hG⟩ | ⟨q_2, hG⟩
    · clear hF
      have hr := Option.some.inj hG; subst hr
      exact hm
    · clear hF
      have hr := Option.some.inj hG; subst hr
      exact hm
  · clear hF
    have hr := Option.some.inj hG; subst hr
    exact hm
set_option maxRecDepth 20000 in
set_option maxHeartbeats 2000000 in
theorem k_MText_is {N : Nat} {p0 : Nat} {p1 : Int32} {H : Hp} {r : Int32 × Hp} (hF : F_MText_is N p0 p1 H = some r) : ab_M y_MText_is { frames := 0, cells := 0, slots := 0, locals := 0 } [.ref p0, .int p1] (hpw H) (po (.returned (some (.int r.1))) r.2) := by
  unfold F_MText_is at hF
  refine ab_of2 (lv := [some (.ref p0), some (.int p1)]) 0 rfl rfl (Nat.le_of_ble_eq_true rfl) ?_
  refine ab_aload_n d_MText_is_0 rfl rfl rfl ?_
  obtain ⟨q1, hG⟩ := ck_s hF; clear hF
  refine hp_getI (f := 9) d_MText_is_1 q1 (by decide) rfl (by decide) (k8 172 rfl rfl) rfl ?_
  refine ab_topi (fun x2 ex2 => ?_)
  replace hG := bnd_s ex2 hG
  refine ab_if_ne (tgt := 24) d_MText_is_4 (by decide) (fun q3 => ?_) (fun q3 => ?_)
  · rw [if_neg q3] at hG
    refine ab_iconst (v := 0) d_MText_is_24 (by decide) ?_
    exact ab_zret d_MText_is_25 rfl rfl (Nat.le_refl _) (Nat.le_refl _) (by have hr := Option.some.inj hG; subst hr; exact ⟨rfl, rfl⟩)
  · rw [if_pos q3] at hG
    refine ab_aload_n d_MText_is_7 rfl rfl rfl ?_
    obtain ⟨a4, e5, hF⟩ := rf_s hG; clear hG
    refine hp_getR (f := 3) d_MText_is_8 q1 (by decide) rfl (by decide) (k8 162 rfl rfl) rfl e5 ?_
    refine ab_aload_n d_MText_is_11 rfl rfl rfl ?_
    refine hp_getI (f := 11) d_MText_is_12 q1 (by decide) rfl (by decide) (k8 175 rfl rfl) rfl ?_
    refine ab_topi (fun x6 ex6 => ?_)
    replace hF := bnd_s ex6 hF
    obtain ⟨n7, q8, hG⟩ := ar_s hF; clear hF
    obtain ⟨q9, hF⟩ := ck_s hG; clear hG
    refine hp_iald d_MText_is_15 tI q8 q9 ?_
    refine ab_topi (fun x10 ex10 => ?_)
    replace hF := bnd_s ex10 hF
    refine ab_iload_n d_MText_is_16 rfl rfl ?_
    refine ab_icmp_ne (tgt := 24) d_MText_is_17 (by decide) (fun q11 => ?_) (fun q11 => ?_)
    · rw [if_neg q11] at hF
      refine ab_iconst (v := 0) d_MText_is_24 (by decide) ?_
      exact ab_zret d_MText_is_25 rfl rfl (Nat.le_refl _) (Nat.le_refl _) (by have hr := Option.some.inj hF; subst hr; exact ⟨rfl, rfl⟩)
    · rw [if_pos q11] at hF
      refine ab_iconst (v := 1) d_MText_is_20 (by decide) ?_
      refine ab_goto (tgt := 25) d_MText_is_21 (by decide) ?_
      exact ab_zret d_MText_is_25 rfl rfl (Nat.le_refl _) (Nat.le_refl _) (by have hr := Option.some.inj hF; subst hr; exact ⟨rfl, rfl⟩)
def y_MText_accepts : ab_Y := (⟨"WorldEngineModel$Text", "accepts", "(I)Z"⟩, prog_16_method_19_code, 3, (some FieldType.boolean), [])
theorem d_MText_accepts_0 : decode y_MText_accepts.2.1 0 = .ok (.aload_n 0, 1) := by decide +kernel
theorem d_MText_accepts_1 : decode y_MText_accepts.2.1 1 = .ok (.iload_n 1, 1) := by decide +kernel
theorem d_MText_accepts_2 : decode y_MText_accepts.2.1 2 = .ok (.invokevirtual 194, 3) := by decide +kernel
theorem d_MText_accepts_5 : decode y_MText_accepts.2.1 5 = .ok (.istore_n 2, 1) := by decide +kernel
theorem d_MText_accepts_6 : decode y_MText_accepts.2.1 6 = .ok (.aload_n 0, 1) := by decide +kernel
theorem d_MText_accepts_7 : decode y_MText_accepts.2.1 7 = .ok (.dup, 1) := by decide +kernel
theorem d_MText_accepts_8 : decode y_MText_accepts.2.1 8 = .ok (.getfield 191, 3) := by decide +kernel
theorem d_MText_accepts_11 : decode y_MText_accepts.2.1 11 = .ok (.iload_n 2, 1) := by decide +kernel
theorem d_MText_accepts_12 : decode y_MText_accepts.2.1 12 = .ok (.ifCond .eq 7, 3) := by decide +kernel
theorem d_MText_accepts_15 : decode y_MText_accepts.2.1 15 = .ok (.iconst 1, 1) := by decide +kernel
theorem d_MText_accepts_16 : decode y_MText_accepts.2.1 16 = .ok (.goto 4, 3) := by decide +kernel
theorem d_MText_accepts_19 : decode y_MText_accepts.2.1 19 = .ok (.iconst 0, 1) := by decide +kernel
theorem d_MText_accepts_20 : decode y_MText_accepts.2.1 20 = .ok (.iadd, 1) := by decide +kernel
theorem d_MText_accepts_21 : decode y_MText_accepts.2.1 21 = .ok (.putfield 191, 3) := by decide +kernel
theorem d_MText_accepts_24 : decode y_MText_accepts.2.1 24 = .ok (.iload_n 2, 1) := by decide +kernel
theorem d_MText_accepts_25 : decode y_MText_accepts.2.1 25 = .ok (.ireturn, 1) := by decide +kernel
theorem s_MText_accepts : ab_Stat y_MText_accepts 1 := ⟨(k10 179 rfl rfl), (k1 20 rfl rfl), ⟨by decide, by decide⟩, by decide +kernel⟩
theorem i_MText_accepts : Cond.instanceMethod y_MText_accepts.1 ∈ ab_T := (k10 178 rfl rfl)
theorem v_MText_accepts : Cond.selects "WorldEngineModel$Text" y_MText_accepts.1 y_MText_accepts.1 ∈ ab_T := ab_s (List.mem_of_getElem? (i := 120) rfl) rfl
def F_MText_accepts (N : Nat) (p0 : Nat) (p1 : Int32) (H : Hp) : Option (Int32 × Hp) :=
    ck (H.sh[p0]? = some (14, 0)) <|
    bC (F_MText_is N p0 p1 H) fun v3 H4 =>
    bnd ((H4.D p0 11)) fun x5 =>
    if v3 = (0 : Int32) then
    bnd (H4.sD p0 11 (x5 + (0 : Int32))) fun H7 =>
    ck (v3 &&& 1 = v3) <|
    some (v3, H7)
    else
    bnd (H4.sD p0 11 (x5 + (1 : Int32))) fun H9 =>
    ck (v3 &&& 1 = v3) <|
    some (v3, H9)
set_option maxRecDepth 20000 in
set_option maxHeartbeats 2000000 in
theorem m_MText_accepts {N : Nat} {p0 : Nat} {p1 : Int32} {H : Hp} {r : Int32 × Hp} (hF : F_MText_accepts N p0 p1 H = some r) : Sa H r.2 := by
  unfold F_MText_accepts at hF
  have hm := Sa.rf H
  obtain ⟨q11, hG⟩ := ck_s hF; clear hF
  obtain ⟨v13, H14, z12, hF⟩ := bC_s hG; clear hG
  replace hm : Sa H H14 := hm.tr (m_MText_is z12)
  obtain ⟨x15, -, hG⟩ := bnd_g hF; clear hF
  rcases ite_s hG with ⟨q_5, hF⟩ | ⟨q_5, hF⟩
  · clear hG
    obtain ⟨H17, eH17, hG⟩ := bnd_g hF; clear hF
    replace hm : Sa H H17 := by rw [eH17]; exact hm
    obtain ⟨q18, hF⟩ := ck_s hG; clear hG
    have hr := Option.some.inj hF; subst hr
    exact hm
  · clear hG
    obtain ⟨H19, eH19, hG⟩ := bnd_g hF; clear hF
    replace hm : Sa H H19 := by rw [eH19]; exact hm
    obtain ⟨q20, hF⟩ := ck_s hG; clear hG
    have hr := Option.some.inj hF; subst hr
    exact hm
set_option maxRecDepth 20000 in
set_option maxHeartbeats 2000000 in
theorem k_MText_accepts {N : Nat} {p0 : Nat} {p1 : Int32} {H : Hp} {r : Int32 × Hp} (hF : F_MText_accepts N p0 p1 H = some r) : ab_M y_MText_accepts { frames := 1, cells := 0, slots := 0, locals := 21 } [.ref p0, .int p1] (hpw H) (po (.returned (some (.int r.1))) r.2) := by
  unfold F_MText_accepts at hF
  refine ab_of2 (lv := [some (.ref p0), some (.int p1), none]) 1 rfl rfl (Nat.le_of_ble_eq_true rfl) ?_
  refine ab_aload_n d_MText_accepts_0 rfl rfl rfl ?_
  refine ab_iload_n d_MText_accepts_1 rfl rfl ?_
  obtain ⟨q1, hG⟩ := ck_s hF; clear hF
  obtain ⟨v3, H4, z2, hF⟩ := bC_s hG; clear hG
  refine hp_callV_a (v := .int v3) (H1 := H4) (As := [.int p1]) (rest := []) d_MText_accepts_2 (k_MText_is z2) (ab_mkC s_MText_is (Nat.le_of_ble_eq_true rfl) (Nat.le_of_ble_eq_true rfl) (Nat.le_refl 0) (Nat.le_refl 0)) (k10 180 rfl rfl) i_MText_is v_MText_is q1 (by decide) rfl rfl (Nat.le_of_ble_eq_true rfl) ?_
  have s_1 : Sa H H4 := (m_MText_is z2)
  refine ab_istore_n (lv' := [some (.ref p0), some (.int p1), some (.int v3)]) d_MText_accepts_5 rfl (by decide) rfl ?_
  refine ab_aload_n d_MText_accepts_6 rfl rfl rfl ?_
  refine ab_dup d_MText_accepts_7 rfl ?_
  refine hp_getI (f := 11) d_MText_accepts_8 (by rw [(s_1).1]; exact q1) (by decide) rfl (by decide) (k8 175 rfl rfl) rfl ?_
  refine ab_topi (fun x5 ex5 => ?_)
  replace hF := bnd_s ex5 hF
  refine ab_iload_n d_MText_accepts_11 rfl rfl ?_
  refine ab_if_eq (tgt := 19) d_MText_accepts_12 (by decide) (fun q6 => ?_) (fun q6 => ?_)
  · rw [if_pos q6] at hF
    refine ab_iconst (v := 0) d_MText_accepts_19 (by decide) ?_
    refine ab_iadd d_MText_accepts_20 ?_
    refine hp_putI (v := x5 + (0 : Int32)) (f := 11) d_MText_accepts_21 (by rw [(s_1).1]; exact q1) (by decide) rfl (by decide) (k8 175 rfl rfl) rfl rfl (fun _ => rfl) (fun _ => rfl) rfl ?_
    refine hp_gen (fun H7 eH7 => ?_)
    replace hF := bnd_s eH7 hF
    have s_2 : Sa H H7 := by rw [eH7]; exact s_1
    refine ab_iload_n d_MText_accepts_24 rfl rfl ?_
    obtain ⟨q8, hG⟩ := ck_s hF; clear hF
    exact ab_zret d_MText_accepts_25 rfl (congrArg Value.int q8) (Nat.le_refl _) (Nat.le_refl _) (by have hr := Option.some.inj hG; subst hr; exact ⟨rfl, rfl⟩)
  · rw [if_neg q6] at hF
    refine ab_iconst (v := 1) d_MText_accepts_15 (by decide) ?_
    refine ab_goto (tgt := 20) d_MText_accepts_16 (by decide) ?_
    refine ab_iadd d_MText_accepts_20 ?_
    refine hp_putI (v := x5 + (1 : Int32)) (f := 11) d_MText_accepts_21 (by rw [(s_1).1]; exact q1) (by decide) rfl (by decide) (k8 175 rfl rfl) rfl rfl (fun _ => rfl) (fun _ => rfl) rfl ?_
    refine hp_gen (fun H9 eH9 => ?_)
    replace hF := bnd_s eH9 hF
    have s_3 : Sa H H9 := by rw [eH9]; exact s_1
    refine ab_iload_n d_MText_accepts_24 rfl rfl ?_
    obtain ⟨q10, hG⟩ := ck_s hF; clear hF
    exact ab_zret d_MText_accepts_25 rfl (congrArg Value.int q10) (Nat.le_refl _) (Nat.le_refl _) (by have hr := Option.some.inj hG; subst hr; exact ⟨rfl, rfl⟩)
def y_MText_takes : ab_Y := (⟨"WorldEngineModel$Text", "takes", "(I)V"⟩, prog_16_method_20_code, 2, none, [])
theorem d_MText_takes_0 : decode y_MText_takes.2.1 0 = .ok (.aload_n 0, 1) := by decide +kernel
theorem d_MText_takes_1 : decode y_MText_takes.2.1 1 = .ok (.iload_n 1, 1) := by decide +kernel
theorem d_MText_takes_2 : decode y_MText_takes.2.1 2 = .ok (.invokevirtual 197, 3) := by decide +kernel
theorem d_MText_takes_5 : decode y_MText_takes.2.1 5 = .ok (.ifCond .ne 12, 3) := by decide +kernel
theorem d_MText_takes_8 : decode y_MText_takes.2.1 8 = .ok (.aload_n 0, 1) := by decide +kernel
theorem d_MText_takes_9 : decode y_MText_takes.2.1 9 = .ok (.iconst 1, 1) := by decide +kernel
theorem d_MText_takes_10 : decode y_MText_takes.2.1 10 = .ok (.aload_n 0, 1) := by decide +kernel
theorem d_MText_takes_11 : decode y_MText_takes.2.1 11 = .ok (.getfield 191, 3) := by decide +kernel
theorem d_MText_takes_14 : decode y_MText_takes.2.1 14 = .ok (.invokevirtual 200, 3) := by decide +kernel
theorem d_MText_takes_17 : decode y_MText_takes.2.1 17 = .ok (.return_, 1) := by decide +kernel
theorem s_MText_takes : ab_Stat y_MText_takes 1 := ⟨(k10 175 rfl rfl), (k1 20 rfl rfl), ⟨by decide, by decide⟩, by decide +kernel⟩
theorem i_MText_takes : Cond.instanceMethod y_MText_takes.1 ∈ ab_T := (k10 174 rfl rfl)
theorem v_MText_takes : Cond.selects "WorldEngineModel$Text" y_MText_takes.1 y_MText_takes.1 ∈ ab_T := ab_s (List.mem_of_getElem? (i := 119) rfl) rfl
def F_MText_takes (N : Nat) (p0 : Nat) (p1 : Int32) (H : Hp) : Option (Unit × Hp) :=
    ck (H.sh[p0]? = some (14, 0)) <|
    bC (F_MText_accepts N p0 p1 H) fun v3 H4 =>
    if v3 = (0 : Int32) then
    bnd ((H4.D p0 11)) fun x6 =>
    bC (F_MText_fails N p0 (1 : Int32) x6 H4) fun v8 H9 =>
    some ((), H9)
    else
    some ((), H4)
set_option maxRecDepth 20000 in
set_option maxHeartbeats 2000000 in
theorem m_MText_takes {N : Nat} {p0 : Nat} {p1 : Int32} {H : Hp} {r : Unit × Hp} (hF : F_MText_takes N p0 p1 H = some r) : Sa H r.2 := by
  unfold F_MText_takes at hF
  have hm := Sa.rf H
  obtain ⟨q10, hG⟩ := ck_s hF; clear hF
  obtain ⟨v12, H13, z11, hF⟩ := bC_s hG; clear hG
  replace hm : Sa H H13 := hm.tr (m_MText_accepts z11)
  rcases ite_s hF with ⟨q_4, hG⟩ | ⟨q_4, hG⟩
  · clear hF
    obtain ⟨x15, -, hF⟩ := bnd_g hG; clear hG
    obtain ⟨v17, H18, z16, hG⟩ := bC_s hF; clear hF
    replace hm : Sa H H18 := hm.tr (m_MText_fails z16)
    have hr := Option.some.inj hG; subst hr
    exact hm
  · clear hF
    have hr := Option.some.inj hG; subst hr
    exact hm
set_option maxRecDepth 20000 in
set_option maxHeartbeats 2000000 in
theorem k_MText_takes {N : Nat} {p0 : Nat} {p1 : Int32} {H : Hp} {r : Unit × Hp} (hF : F_MText_takes N p0 p1 H = some r) : ab_M y_MText_takes { frames := 2, cells := 0, slots := 0, locals := 43 } [.ref p0, .int p1] (hpw H) (po (.returned none) r.2) := by
  unfold F_MText_takes at hF
  refine ab_of2 (lv := [some (.ref p0), some (.int p1)]) 0 rfl rfl (Nat.le_of_ble_eq_true rfl) ?_
  refine ab_aload_n d_MText_takes_0 rfl rfl rfl ?_
  refine ab_iload_n d_MText_takes_1 rfl rfl ?_
  obtain ⟨q1, hG⟩ := ck_s hF; clear hF
  obtain ⟨v3, H4, z2, hF⟩ := bC_s hG; clear hG
  refine hp_callV_a (v := .int v3) (H1 := H4) (As := [.int p1]) (rest := []) d_MText_takes_2 (k_MText_accepts z2) (ab_mkC s_MText_accepts (Nat.le_of_ble_eq_true rfl) (Nat.le_of_ble_eq_true rfl) (Nat.le_refl 0) (Nat.le_refl 0)) (k10 176 rfl rfl) i_MText_accepts v_MText_accepts q1 (by decide) rfl rfl (Nat.le_of_ble_eq_true rfl) ?_
  have s_1 : Sa H H4 := (m_MText_accepts z2)
  refine ab_if_ne (tgt := 17) d_MText_takes_5 (by decide) (fun q5 => ?_) (fun q5 => ?_)
  · rw [if_neg q5] at hF
    exact ab_vret d_MText_takes_17 rfl (Nat.le_refl _) (Nat.le_refl _) (by have hr := Option.some.inj hF; subst hr; exact ⟨rfl, rfl⟩)
  · rw [if_pos q5] at hF
    refine ab_aload_n d_MText_takes_8 rfl rfl rfl ?_
    refine ab_iconst (v := 1) d_MText_takes_9 (by decide) ?_
    refine ab_aload_n d_MText_takes_10 rfl rfl rfl ?_
    refine hp_getI (f := 11) d_MText_takes_11 (by rw [(s_1).1]; exact q1) (by decide) rfl (by decide) (k8 175 rfl rfl) rfl ?_
    refine ab_topi (fun x6 ex6 => ?_)
    replace hF := bnd_s ex6 hF
    obtain ⟨v8, H9, z7, hG⟩ := bC_s hF; clear hF
    refine hp_callV_v (H1 := H9) (As := [.int 1, .int x6]) (rest := []) d_MText_takes_14 (k_MText_fails z7) (ab_mkC s_MText_fails (Nat.le_of_ble_eq_true rfl) (Nat.le_of_ble_eq_true rfl) (Nat.le_refl 0) (Nat.le_refl 0)) (k10 160 rfl rfl) i_MText_fails v_MText_fails (by rw [(s_1).1]; exact q1) (by decide) rfl rfl (Nat.le_of_ble_eq_true rfl) ?_
    have s_2 : Sa H H9 := (s_1).tr (m_MText_fails z7)
    exact ab_vret d_MText_takes_17 rfl (Nat.le_refl _) (Nat.le_refl _) (by have hr := Option.some.inj hG; subst hr; exact ⟨rfl, rfl⟩)
def y_MText_name : ab_Y := (⟨"WorldEngineModel$Text", "name", "()I"⟩, prog_16_method_21_code, 2, (some FieldType.int), [])
theorem d_MText_name_0 : decode y_MText_name.2.1 0 = .ok (.aload_n 0, 1) := by decide +kernel
theorem d_MText_name_1 : decode y_MText_name.2.1 1 = .ok (.getfield 191, 3) := by decide +kernel
theorem d_MText_name_4 : decode y_MText_name.2.1 4 = .ok (.istore_n 1, 1) := by decide +kernel
theorem d_MText_name_5 : decode y_MText_name.2.1 5 = .ok (.aload_n 0, 1) := by decide +kernel
theorem d_MText_name_6 : decode y_MText_name.2.1 6 = .ok (.iconst 1, 1) := by decide +kernel
theorem d_MText_name_7 : decode y_MText_name.2.1 7 = .ok (.invokevirtual 204, 3) := by decide +kernel
theorem d_MText_name_10 : decode y_MText_name.2.1 10 = .ok (.aload_n 0, 1) := by decide +kernel
theorem d_MText_name_11 : decode y_MText_name.2.1 11 = .ok (.getfield 185, 3) := by decide +kernel
theorem d_MText_name_14 : decode y_MText_name.2.1 14 = .ok (.ifCond .ne 18, 3) := by decide +kernel
theorem d_MText_name_17 : decode y_MText_name.2.1 17 = .ok (.aload_n 0, 1) := by decide +kernel
theorem d_MText_name_18 : decode y_MText_name.2.1 18 = .ok (.getfield 28, 3) := by decide +kernel
theorem d_MText_name_21 : decode y_MText_name.2.1 21 = .ok (.iload_n 1, 1) := by decide +kernel
theorem d_MText_name_22 : decode y_MText_name.2.1 22 = .ok (.baload, 1) := by decide +kernel
theorem d_MText_name_23 : decode y_MText_name.2.1 23 = .ok (.ifCond .eq 9, 3) := by decide +kernel
theorem d_MText_name_26 : decode y_MText_name.2.1 26 = .ok (.aload_n 0, 1) := by decide +kernel
theorem d_MText_name_27 : decode y_MText_name.2.1 27 = .ok (.iconst 2, 1) := by decide +kernel
theorem d_MText_name_28 : decode y_MText_name.2.1 28 = .ok (.iload_n 1, 1) := by decide +kernel
theorem d_MText_name_29 : decode y_MText_name.2.1 29 = .ok (.invokevirtual 200, 3) := by decide +kernel
theorem d_MText_name_32 : decode y_MText_name.2.1 32 = .ok (.iload_n 1, 1) := by decide +kernel
theorem d_MText_name_33 : decode y_MText_name.2.1 33 = .ok (.ireturn, 1) := by decide +kernel
theorem s_MText_name : ab_Stat y_MText_name 0 := ⟨(k10 171 rfl rfl), (k1 20 rfl rfl), ⟨by decide, by decide⟩, by decide +kernel⟩
theorem i_MText_name : Cond.instanceMethod y_MText_name.1 ∈ ab_T := (k10 170 rfl rfl)
theorem v_MText_name : Cond.selects "WorldEngineModel$Text" y_MText_name.1 y_MText_name.1 ∈ ab_T := ab_s (List.mem_of_getElem? (i := 118) rfl) rfl
def F_MText_name (N : Nat) (p0 : Nat) (H : Hp) : Option (Int32 × Hp) :=
    ck (H.sh[p0]? = some (14, 0)) <|
    bnd ((H.D p0 11)) fun x2 =>
    bC (F_MText_takes N p0 (1 : Int32) H) fun v4 H5 =>
    bnd ((H5.D p0 9)) fun x6 =>
    if x6 = (0 : Int32) then
    rf (H5.P p0 7) fun a8 =>
    ar H5 102 a8 fun n10 =>
    ck (inb x2 n10) <|
    bnd ((H5.D a8 (x2).toNatClampNeg)) fun x13 =>
    if x13 = (0 : Int32) then
    some (x2, H5)
    else
    bC (F_MText_fails N p0 (2 : Int32) x2 H5) fun v16 H17 =>
    some (x2, H17)
    else
    some (x2, H5)
set_option maxRecDepth 20000 in
set_option maxHeartbeats 2000000 in
theorem m_MText_name {N : Nat} {p0 : Nat} {H : Hp} {r : Int32 × Hp} (hF : F_MText_name N p0 H = some r) : Sa H r.2 := by
  unfold F_MText_name at hF
  have hm := Sa.rf H
  obtain ⟨q18, hG⟩ := ck_s hF; clear hF
  obtain ⟨x19, -, hF⟩ := bnd_g hG; clear hG
  obtain ⟨v21, H22, z20, hG⟩ := bC_s hF; clear hF
  replace hm : Sa H H22 := hm.tr (m_MText_takes z20)
  obtain ⟨x23, -, hF⟩ := bnd_g hG; clear hG
  rcases ite_s hF with ⟨q_4, hG⟩ | ⟨q_4, hG⟩
  · clear hF
    obtain ⟨a25, e26, hF⟩ := rf_s hG; clear hG
    obtain ⟨n27, q28, hG⟩ := ar_s hF; clear hF
    obtain ⟨q29, hF⟩ := ck_s hG; clear hG
    obtain ⟨x30, -, hG⟩ := bnd_g hF; clear hF
    rcases ite_s hG with ⟨q_5, hF⟩ | ⟨q_5, hF⟩
    · clear hG
      have hr := Option.some.inj hF; subst hr
      exact hm
    · clear hG
      obtain ⟨v33, H34, z32, hG⟩ := bC_s hF; clear hF
      replace hm : Sa H H34 := hm.tr (m_MText_fails z32)
      have hr := Option.some.inj hG; subst hr
      exact hm
  · clear hF
    have hr := Option.some.inj hG; subst hr
    exact hm
set_option maxRecDepth 20000 in
set_option maxHeartbeats 2000000 in
theorem k_MText_name {N : Nat} {p0 : Nat} {H : Hp} {r : Int32 × Hp} (hF : F_MText_name N p0 H = some r) : ab_M y_MText_name { frames := 3, cells := 0, slots := 0, locals := 64 } [.ref p0] (hpw H) (po (.returned (some (.int r.1))) r.2) := by
  unfold F_MText_name at hF
  refine ab_of2 (lv := [some (.ref p0), none]) 1 rfl rfl (Nat.le_of_ble_eq_true rfl) ?_
  refine ab_aload_n d_MText_name_0 rfl rfl rfl ?_
  obtain ⟨q1, hG⟩ := ck_s hF; clear hF
  refine hp_getI (f := 11) d_MText_name_1 q1 (by decide) rfl (by decide) (k8 175 rfl rfl) rfl ?_
  refine ab_topi (fun x2 ex2 => ?_)
  replace hG := bnd_s ex2 hG
  refine ab_istore_n (lv' := [some (.ref p0), some (.int x2)]) d_MText_name_4 rfl (by decide) rfl ?_
  refine ab_aload_n d_MText_name_5 rfl rfl rfl ?_
  refine ab_iconst (v := 1) d_MText_name_6 (by decide) ?_
  obtain ⟨v4, H5, z3, hF⟩ := bC_s hG; clear hG
  refine hp_callV_v (H1 := H5) (As := [.int 1]) (rest := []) d_MText_name_7 (k_MText_takes z3) (ab_mkC s_MText_takes (Nat.le_of_ble_eq_true rfl) (Nat.le_of_ble_eq_true rfl) (Nat.le_refl 0) (Nat.le_refl 0)) (k10 172 rfl rfl) i_MText_takes v_MText_takes q1 (by decide) rfl rfl (Nat.le_of_ble_eq_true rfl) ?_
  have s_1 : Sa H H5 := (m_MText_takes z3)
  refine ab_aload_n d_MText_name_10 rfl rfl rfl ?_
  refine hp_getI (f := 9) d_MText_name_11 (by rw [(s_1).1]; exact q1) (by decide) rfl (by decide) (k8 172 rfl rfl) rfl ?_
  refine ab_topi (fun x6 ex6 => ?_)
  replace hF := bnd_s ex6 hF
  refine ab_if_ne (tgt := 32) d_MText_name_14 (by decide) (fun q7 => ?_) (fun q7 => ?_)
  · rw [if_neg q7] at hF
    refine ab_iload_n d_MText_name_32 rfl rfl ?_
    exact ab_iret d_MText_name_33 rfl (Nat.le_refl _) (Nat.le_refl _) (by have hr := Option.some.inj hF; subst hr; exact ⟨rfl, rfl⟩)
  · rw [if_pos q7] at hF
    refine ab_aload_n d_MText_name_17 rfl rfl rfl ?_
    obtain ⟨a8, e9, hG⟩ := rf_s hF; clear hF
    refine hp_getR (f := 7) d_MText_name_18 (by rw [(s_1).1]; exact q1) (by decide) rfl (by decide) (k8 168 rfl rfl) rfl e9 ?_
    refine ab_iload_n d_MText_name_21 rfl rfl ?_
    obtain ⟨n10, q11, hF⟩ := ar_s hG; clear hG
    rw [(s_1).1] at q11
    obtain ⟨q12, hG⟩ := ck_s hF; clear hF
    refine hp_zald d_MText_name_22 tZ (by rw [(s_1).1]; exact q11) q12 ?_
    refine ab_topi (fun x13 ex13 => ?_)
    replace hG := bnd_s ex13 hG
    refine ab_if_eq (tgt := 32) d_MText_name_23 (by decide) (fun q14 => ?_) (fun q14 => ?_)
    · rw [if_pos q14] at hG
      refine ab_iload_n d_MText_name_32 rfl rfl ?_
      exact ab_iret d_MText_name_33 rfl (Nat.le_refl _) (Nat.le_refl _) (by have hr := Option.some.inj hG; subst hr; exact ⟨rfl, rfl⟩)
    · rw [if_neg q14] at hG
      refine ab_aload_n d_MText_name_26 rfl rfl rfl ?_
      refine ab_iconst (v := 2) d_MText_name_27 (by decide) ?_
      refine ab_iload_n d_MText_name_28 rfl rfl ?_
      obtain ⟨v16, H17, z15, hF⟩ := bC_s hG; clear hG
      refine hp_callV_v (H1 := H17) (As := [.int 2, .int x2]) (rest := []) d_MText_name_29 (k_MText_fails z15) (ab_mkC s_MText_fails (Nat.le_of_ble_eq_true rfl) (Nat.le_of_ble_eq_true rfl) (Nat.le_refl 0) (Nat.le_refl 0)) (k10 160 rfl rfl) i_MText_fails v_MText_fails (by rw [(s_1).1]; exact q1) (by decide) rfl rfl (Nat.le_of_ble_eq_true rfl) ?_
      have s_2 : Sa H H17 := (s_1).tr (m_MText_fails z15)
      refine ab_iload_n d_MText_name_32 rfl rfl ?_
      exact ab_iret d_MText_name_33 rfl (Nat.le_refl _) (Nat.le_refl _) (by have hr := Option.some.inj hF; subst hr; exact ⟨rfl, rfl⟩)
