def y_Lexer_behindNumber : ab_Y := (⟨"WorldEngine$Lexer", "behindNumber", "(I)I"⟩, prog_3_method_12_code, 13, (some FieldType.int), [])
theorem d_Lexer_behindNumber_0 : decode y_Lexer_behindNumber.2.1 0 = .ok (.lconst 0, 1) := by decide +kernel
theorem d_Lexer_behindNumber_1 : decode y_Lexer_behindNumber.2.1 1 = .ok (.lstore_n 2, 1) := by decide +kernel
theorem d_Lexer_behindNumber_2 : decode y_Lexer_behindNumber.2.1 2 = .ok (.iload_n 1, 1) := by decide +kernel
theorem d_Lexer_behindNumber_3 : decode y_Lexer_behindNumber.2.1 3 = .ok (.istore 4, 2) := by decide +kernel
theorem d_Lexer_behindNumber_5 : decode y_Lexer_behindNumber.2.1 5 = .ok (.iload 4, 2) := by decide +kernel
theorem d_Lexer_behindNumber_7 : decode y_Lexer_behindNumber.2.1 7 = .ok (.aload_n 0, 1) := by decide +kernel
theorem d_Lexer_behindNumber_8 : decode y_Lexer_behindNumber.2.1 8 = .ok (.getfield 42, 3) := by decide +kernel
theorem d_Lexer_behindNumber_11 : decode y_Lexer_behindNumber.2.1 11 = .ok (.if_icmp .ge 45, 3) := by decide +kernel
theorem d_Lexer_behindNumber_14 : decode y_Lexer_behindNumber.2.1 14 = .ok (.aload_n 0, 1) := by decide +kernel
theorem d_Lexer_behindNumber_15 : decode y_Lexer_behindNumber.2.1 15 = .ok (.iload 4, 2) := by decide +kernel
theorem d_Lexer_behindNumber_17 : decode y_Lexer_behindNumber.2.1 17 = .ok (.invokevirtual 74, 3) := by decide +kernel
theorem d_Lexer_behindNumber_20 : decode y_Lexer_behindNumber.2.1 20 = .ok (.invokestatic 84, 3) := by decide +kernel
theorem d_Lexer_behindNumber_23 : decode y_Lexer_behindNumber.2.1 23 = .ok (.ifCond .eq 33, 3) := by decide +kernel
theorem d_Lexer_behindNumber_26 : decode y_Lexer_behindNumber.2.1 26 = .ok (.lload_n 2, 1) := by decide +kernel
theorem d_Lexer_behindNumber_27 : decode y_Lexer_behindNumber.2.1 27 = .ok (.ldc2_w 97, 3) := by decide +kernel
theorem d_Lexer_behindNumber_30 : decode y_Lexer_behindNumber.2.1 30 = .ok (.lmul, 1) := by decide +kernel
theorem d_Lexer_behindNumber_31 : decode y_Lexer_behindNumber.2.1 31 = .ok (.aload_n 0, 1) := by decide +kernel
theorem d_Lexer_behindNumber_32 : decode y_Lexer_behindNumber.2.1 32 = .ok (.iload 4, 2) := by decide +kernel
theorem d_Lexer_behindNumber_34 : decode y_Lexer_behindNumber.2.1 34 = .ok (.invokevirtual 74, 3) := by decide +kernel
theorem d_Lexer_behindNumber_37 : decode y_Lexer_behindNumber.2.1 37 = .ok (.i2l, 1) := by decide +kernel
theorem d_Lexer_behindNumber_38 : decode y_Lexer_behindNumber.2.1 38 = .ok (.ladd, 1) := by decide +kernel
theorem d_Lexer_behindNumber_39 : decode y_Lexer_behindNumber.2.1 39 = .ok (.ldc2_w 99, 3) := by decide +kernel
theorem d_Lexer_behindNumber_42 : decode y_Lexer_behindNumber.2.1 42 = .ok (.lsub, 1) := by decide +kernel
theorem d_Lexer_behindNumber_43 : decode y_Lexer_behindNumber.2.1 43 = .ok (.ldc2_w 101, 3) := by decide +kernel
theorem d_Lexer_behindNumber_46 : decode y_Lexer_behindNumber.2.1 46 = .ok (.invokestatic 103, 3) := by decide +kernel
theorem d_Lexer_behindNumber_49 : decode y_Lexer_behindNumber.2.1 49 = .ok (.lstore_n 2, 1) := by decide +kernel
theorem d_Lexer_behindNumber_50 : decode y_Lexer_behindNumber.2.1 50 = .ok (.iinc 4 1, 3) := by decide +kernel
theorem d_Lexer_behindNumber_53 : decode y_Lexer_behindNumber.2.1 53 = .ok (.goto (-48), 3) := by decide +kernel
theorem d_Lexer_behindNumber_56 : decode y_Lexer_behindNumber.2.1 56 = .ok (.aload_n 0, 1) := by decide +kernel
theorem d_Lexer_behindNumber_57 : decode y_Lexer_behindNumber.2.1 57 = .ok (.iload 4, 2) := by decide +kernel
theorem d_Lexer_behindNumber_59 : decode y_Lexer_behindNumber.2.1 59 = .ok (.invokevirtual 74, 3) := by decide +kernel
theorem d_Lexer_behindNumber_62 : decode y_Lexer_behindNumber.2.1 62 = .ok (.bipush 46, 2) := by decide +kernel
theorem d_Lexer_behindNumber_64 : decode y_Lexer_behindNumber.2.1 64 = .ok (.if_icmp .ne 17, 3) := by decide +kernel
theorem d_Lexer_behindNumber_67 : decode y_Lexer_behindNumber.2.1 67 = .ok (.aload_n 0, 1) := by decide +kernel
theorem d_Lexer_behindNumber_68 : decode y_Lexer_behindNumber.2.1 68 = .ok (.iload 4, 2) := by decide +kernel
theorem d_Lexer_behindNumber_70 : decode y_Lexer_behindNumber.2.1 70 = .ok (.iconst 1, 1) := by decide +kernel
theorem d_Lexer_behindNumber_71 : decode y_Lexer_behindNumber.2.1 71 = .ok (.iadd, 1) := by decide +kernel
theorem d_Lexer_behindNumber_72 : decode y_Lexer_behindNumber.2.1 72 = .ok (.invokevirtual 74, 3) := by decide +kernel
theorem d_Lexer_behindNumber_75 : decode y_Lexer_behindNumber.2.1 75 = .ok (.invokestatic 84, 3) := by decide +kernel
theorem d_Lexer_behindNumber_78 : decode y_Lexer_behindNumber.2.1 78 = .ok (.ifCond .ne 40, 3) := by decide +kernel
theorem d_Lexer_behindNumber_81 : decode y_Lexer_behindNumber.2.1 81 = .ok (.lload_n 2, 1) := by decide +kernel
theorem d_Lexer_behindNumber_82 : decode y_Lexer_behindNumber.2.1 82 = .ok (.ldc2_w 111, 3) := by decide +kernel
theorem d_Lexer_behindNumber_85 : decode y_Lexer_behindNumber.2.1 85 = .ok (.lcmp, 1) := by decide +kernel
theorem d_Lexer_behindNumber_86 : decode y_Lexer_behindNumber.2.1 86 = .ok (.ifCond .le 7, 3) := by decide +kernel
theorem d_Lexer_behindNumber_89 : decode y_Lexer_behindNumber.2.1 89 = .ok (.iconst 1, 1) := by decide +kernel
theorem d_Lexer_behindNumber_90 : decode y_Lexer_behindNumber.2.1 90 = .ok (.goto 4, 3) := by decide +kernel
theorem d_Lexer_behindNumber_93 : decode y_Lexer_behindNumber.2.1 93 = .ok (.iconst 0, 1) := by decide +kernel
theorem d_Lexer_behindNumber_94 : decode y_Lexer_behindNumber.2.1 94 = .ok (.istore 5, 2) := by decide +kernel
theorem d_Lexer_behindNumber_96 : decode y_Lexer_behindNumber.2.1 96 = .ok (.aload_n 0, 1) := by decide +kernel
theorem d_Lexer_behindNumber_97 : decode y_Lexer_behindNumber.2.1 97 = .ok (.iconst 3, 1) := by decide +kernel
theorem d_Lexer_behindNumber_98 : decode y_Lexer_behindNumber.2.1 98 = .ok (.iload_n 1, 1) := by decide +kernel
theorem d_Lexer_behindNumber_99 : decode y_Lexer_behindNumber.2.1 99 = .ok (.iload 5, 2) := by decide +kernel
theorem d_Lexer_behindNumber_101 : decode y_Lexer_behindNumber.2.1 101 = .ok (.ifCond .eq 7, 3) := by decide +kernel
theorem d_Lexer_behindNumber_104 : decode y_Lexer_behindNumber.2.1 104 = .ok (.iconst 0, 1) := by decide +kernel
theorem d_Lexer_behindNumber_105 : decode y_Lexer_behindNumber.2.1 105 = .ok (.goto 5, 3) := by decide +kernel
theorem d_Lexer_behindNumber_108 : decode y_Lexer_behindNumber.2.1 108 = .ok (.lload_n 2, 1) := by decide +kernel
theorem d_Lexer_behindNumber_109 : decode y_Lexer_behindNumber.2.1 109 = .ok (.l2i, 1) := by decide +kernel
theorem d_Lexer_behindNumber_110 : decode y_Lexer_behindNumber.2.1 110 = .ok (.iload 5, 2) := by decide +kernel
theorem d_Lexer_behindNumber_112 : decode y_Lexer_behindNumber.2.1 112 = .ok (.invokevirtual 61, 3) := by decide +kernel
theorem d_Lexer_behindNumber_115 : decode y_Lexer_behindNumber.2.1 115 = .ok (.iload 4, 2) := by decide +kernel
theorem d_Lexer_behindNumber_117 : decode y_Lexer_behindNumber.2.1 117 = .ok (.ireturn, 1) := by decide +kernel
theorem d_Lexer_behindNumber_118 : decode y_Lexer_behindNumber.2.1 118 = .ok (.lconst 0, 1) := by decide +kernel
theorem d_Lexer_behindNumber_119 : decode y_Lexer_behindNumber.2.1 119 = .ok (.lstore 5, 2) := by decide +kernel
theorem d_Lexer_behindNumber_121 : decode y_Lexer_behindNumber.2.1 121 = .ok (.lconst 1, 1) := by decide +kernel
theorem d_Lexer_behindNumber_122 : decode y_Lexer_behindNumber.2.1 122 = .ok (.lstore 7, 2) := by decide +kernel
theorem d_Lexer_behindNumber_124 : decode y_Lexer_behindNumber.2.1 124 = .ok (.iconst 0, 1) := by decide +kernel
theorem d_Lexer_behindNumber_125 : decode y_Lexer_behindNumber.2.1 125 = .ok (.istore 9, 2) := by decide +kernel
theorem d_Lexer_behindNumber_127 : decode y_Lexer_behindNumber.2.1 127 = .ok (.iinc 4 1, 3) := by decide +kernel
theorem d_Lexer_behindNumber_130 : decode y_Lexer_behindNumber.2.1 130 = .ok (.iload 4, 2) := by decide +kernel
theorem d_Lexer_behindNumber_132 : decode y_Lexer_behindNumber.2.1 132 = .ok (.aload_n 0, 1) := by decide +kernel
theorem d_Lexer_behindNumber_133 : decode y_Lexer_behindNumber.2.1 133 = .ok (.getfield 42, 3) := by decide +kernel
theorem d_Lexer_behindNumber_136 : decode y_Lexer_behindNumber.2.1 136 = .ok (.if_icmp .ge 58, 3) := by decide +kernel
theorem d_Lexer_behindNumber_139 : decode y_Lexer_behindNumber.2.1 139 = .ok (.aload_n 0, 1) := by decide +kernel
theorem d_Lexer_behindNumber_140 : decode y_Lexer_behindNumber.2.1 140 = .ok (.iload 4, 2) := by decide +kernel
theorem d_Lexer_behindNumber_142 : decode y_Lexer_behindNumber.2.1 142 = .ok (.invokevirtual 74, 3) := by decide +kernel
theorem d_Lexer_behindNumber_145 : decode y_Lexer_behindNumber.2.1 145 = .ok (.invokestatic 84, 3) := by decide +kernel
theorem d_Lexer_behindNumber_148 : decode y_Lexer_behindNumber.2.1 148 = .ok (.ifCond .eq 46, 3) := by decide +kernel
theorem d_Lexer_behindNumber_151 : decode y_Lexer_behindNumber.2.1 151 = .ok (.iinc 9 1, 3) := by decide +kernel
theorem d_Lexer_behindNumber_154 : decode y_Lexer_behindNumber.2.1 154 = .ok (.iload 9, 2) := by decide +kernel
theorem d_Lexer_behindNumber_156 : decode y_Lexer_behindNumber.2.1 156 = .ok (.iconst 4, 1) := by decide +kernel
theorem d_Lexer_behindNumber_157 : decode y_Lexer_behindNumber.2.1 157 = .ok (.if_icmp .gt 31, 3) := by decide +kernel
theorem d_Lexer_behindNumber_160 : decode y_Lexer_behindNumber.2.1 160 = .ok (.lload 5, 2) := by decide +kernel
theorem d_Lexer_behindNumber_162 : decode y_Lexer_behindNumber.2.1 162 = .ok (.ldc2_w 97, 3) := by decide +kernel
theorem d_Lexer_behindNumber_165 : decode y_Lexer_behindNumber.2.1 165 = .ok (.lmul, 1) := by decide +kernel
theorem d_Lexer_behindNumber_166 : decode y_Lexer_behindNumber.2.1 166 = .ok (.aload_n 0, 1) := by decide +kernel
theorem d_Lexer_behindNumber_167 : decode y_Lexer_behindNumber.2.1 167 = .ok (.iload 4, 2) := by decide +kernel
theorem d_Lexer_behindNumber_169 : decode y_Lexer_behindNumber.2.1 169 = .ok (.invokevirtual 74, 3) := by decide +kernel
theorem d_Lexer_behindNumber_172 : decode y_Lexer_behindNumber.2.1 172 = .ok (.i2l, 1) := by decide +kernel
theorem d_Lexer_behindNumber_173 : decode y_Lexer_behindNumber.2.1 173 = .ok (.ladd, 1) := by decide +kernel
theorem d_Lexer_behindNumber_174 : decode y_Lexer_behindNumber.2.1 174 = .ok (.ldc2_w 99, 3) := by decide +kernel
theorem d_Lexer_behindNumber_177 : decode y_Lexer_behindNumber.2.1 177 = .ok (.lsub, 1) := by decide +kernel
theorem d_Lexer_behindNumber_178 : decode y_Lexer_behindNumber.2.1 178 = .ok (.lstore 5, 2) := by decide +kernel
theorem d_Lexer_behindNumber_180 : decode y_Lexer_behindNumber.2.1 180 = .ok (.lload 7, 2) := by decide +kernel
theorem d_Lexer_behindNumber_182 : decode y_Lexer_behindNumber.2.1 182 = .ok (.ldc2_w 97, 3) := by decide +kernel
theorem d_Lexer_behindNumber_185 : decode y_Lexer_behindNumber.2.1 185 = .ok (.lmul, 1) := by decide +kernel
theorem d_Lexer_behindNumber_186 : decode y_Lexer_behindNumber.2.1 186 = .ok (.lstore 7, 2) := by decide +kernel
theorem d_Lexer_behindNumber_188 : decode y_Lexer_behindNumber.2.1 188 = .ok (.iinc 4 1, 3) := by decide +kernel
theorem d_Lexer_behindNumber_191 : decode y_Lexer_behindNumber.2.1 191 = .ok (.goto (-61), 3) := by decide +kernel
theorem d_Lexer_behindNumber_194 : decode y_Lexer_behindNumber.2.1 194 = .ok (.lload_n 2, 1) := by decide +kernel
theorem d_Lexer_behindNumber_195 : decode y_Lexer_behindNumber.2.1 195 = .ok (.ldc2_w 113, 3) := by decide +kernel
theorem d_Lexer_behindNumber_198 : decode y_Lexer_behindNumber.2.1 198 = .ok (.lcmp, 1) := by decide +kernel
theorem d_Lexer_behindNumber_199 : decode y_Lexer_behindNumber.2.1 199 = .ok (.ifCond .gt 9, 3) := by decide +kernel
theorem d_Lexer_behindNumber_202 : decode y_Lexer_behindNumber.2.1 202 = .ok (.iload 9, 2) := by decide +kernel
theorem d_Lexer_behindNumber_204 : decode y_Lexer_behindNumber.2.1 204 = .ok (.iconst 4, 1) := by decide +kernel
theorem d_Lexer_behindNumber_205 : decode y_Lexer_behindNumber.2.1 205 = .ok (.if_icmp .le 7, 3) := by decide +kernel
theorem d_Lexer_behindNumber_208 : decode y_Lexer_behindNumber.2.1 208 = .ok (.iconst 1, 1) := by decide +kernel
theorem d_Lexer_behindNumber_209 : decode y_Lexer_behindNumber.2.1 209 = .ok (.goto 4, 3) := by decide +kernel
theorem d_Lexer_behindNumber_212 : decode y_Lexer_behindNumber.2.1 212 = .ok (.iconst 0, 1) := by decide +kernel
theorem d_Lexer_behindNumber_213 : decode y_Lexer_behindNumber.2.1 213 = .ok (.istore 10, 2) := by decide +kernel
theorem d_Lexer_behindNumber_215 : decode y_Lexer_behindNumber.2.1 215 = .ok (.lload_n 2, 1) := by decide +kernel
theorem d_Lexer_behindNumber_216 : decode y_Lexer_behindNumber.2.1 216 = .ok (.bipush 16, 2) := by decide +kernel
theorem d_Lexer_behindNumber_218 : decode y_Lexer_behindNumber.2.1 218 = .ok (.lshl, 1) := by decide +kernel
theorem d_Lexer_behindNumber_219 : decode y_Lexer_behindNumber.2.1 219 = .ok (.lload 5, 2) := by decide +kernel
theorem d_Lexer_behindNumber_221 : decode y_Lexer_behindNumber.2.1 221 = .ok (.ldc2_w 115, 3) := by decide +kernel
theorem d_Lexer_behindNumber_224 : decode y_Lexer_behindNumber.2.1 224 = .ok (.lmul, 1) := by decide +kernel
theorem d_Lexer_behindNumber_225 : decode y_Lexer_behindNumber.2.1 225 = .ok (.lload 7, 2) := by decide +kernel
theorem d_Lexer_behindNumber_227 : decode y_Lexer_behindNumber.2.1 227 = .ok (.ldc2_w 117, 3) := by decide +kernel
theorem d_Lexer_behindNumber_230 : decode y_Lexer_behindNumber.2.1 230 = .ok (.ldiv, 1) := by decide +kernel
theorem d_Lexer_behindNumber_231 : decode y_Lexer_behindNumber.2.1 231 = .ok (.ladd, 1) := by decide +kernel
theorem d_Lexer_behindNumber_232 : decode y_Lexer_behindNumber.2.1 232 = .ok (.lconst 1, 1) := by decide +kernel
theorem d_Lexer_behindNumber_233 : decode y_Lexer_behindNumber.2.1 233 = .ok (.lload 7, 2) := by decide +kernel
theorem d_Lexer_behindNumber_235 : decode y_Lexer_behindNumber.2.1 235 = .ok (.invokestatic 119, 3) := by decide +kernel
theorem d_Lexer_behindNumber_238 : decode y_Lexer_behindNumber.2.1 238 = .ok (.ldiv, 1) := by decide +kernel
theorem d_Lexer_behindNumber_239 : decode y_Lexer_behindNumber.2.1 239 = .ok (.ladd, 1) := by decide +kernel
theorem d_Lexer_behindNumber_240 : decode y_Lexer_behindNumber.2.1 240 = .ok (.lstore 11, 2) := by decide +kernel
theorem d_Lexer_behindNumber_242 : decode y_Lexer_behindNumber.2.1 242 = .ok (.aload_n 0, 1) := by decide +kernel
theorem d_Lexer_behindNumber_243 : decode y_Lexer_behindNumber.2.1 243 = .ok (.iconst 4, 1) := by decide +kernel
theorem d_Lexer_behindNumber_244 : decode y_Lexer_behindNumber.2.1 244 = .ok (.iload_n 1, 1) := by decide +kernel
theorem d_Lexer_behindNumber_245 : decode y_Lexer_behindNumber.2.1 245 = .ok (.iload 10, 2) := by decide +kernel
theorem d_Lexer_behindNumber_247 : decode y_Lexer_behindNumber.2.1 247 = .ok (.ifCond .eq 7, 3) := by decide +kernel
theorem d_Lexer_behindNumber_250 : decode y_Lexer_behindNumber.2.1 250 = .ok (.iconst 0, 1) := by decide +kernel
theorem d_Lexer_behindNumber_251 : decode y_Lexer_behindNumber.2.1 251 = .ok (.goto 6, 3) := by decide +kernel
theorem d_Lexer_behindNumber_254 : decode y_Lexer_behindNumber.2.1 254 = .ok (.lload 11, 2) := by decide +kernel
theorem d_Lexer_behindNumber_256 : decode y_Lexer_behindNumber.2.1 256 = .ok (.l2i, 1) := by decide +kernel
theorem d_Lexer_behindNumber_257 : decode y_Lexer_behindNumber.2.1 257 = .ok (.iload 10, 2) := by decide +kernel
theorem d_Lexer_behindNumber_259 : decode y_Lexer_behindNumber.2.1 259 = .ok (.invokevirtual 61, 3) := by decide +kernel
theorem d_Lexer_behindNumber_262 : decode y_Lexer_behindNumber.2.1 262 = .ok (.iload 4, 2) := by decide +kernel
theorem d_Lexer_behindNumber_264 : decode y_Lexer_behindNumber.2.1 264 = .ok (.ireturn, 1) := by decide +kernel
theorem s_Lexer_behindNumber : ab_Stat y_Lexer_behindNumber 1 := ⟨(k4 15 rfl rfl), (k1 2 rfl rfl), ⟨by decide, by decide⟩, by decide +kernel⟩
theorem i_Lexer_behindNumber : Cond.instanceMethod y_Lexer_behindNumber.1 ∈ ab_T := (k4 14 rfl rfl)
theorem v_Lexer_behindNumber : Cond.selects "WorldEngine$Lexer" y_Lexer_behindNumber.1 y_Lexer_behindNumber.1 ∈ ab_T := ab_s (List.mem_of_getElem? (i := 6) rfl) rfl
def B_Lexer_behindNumber_110 (N : Nat) (p0 : Nat) (p1 : Int32) (l4 : Int32) (l5 : Int32) (w0 : Nat) (w1 : Int32) (w2 : Int32) (w3 : Int32) (H : Hp) : Option (Int32 × Hp) :=
    ck (H.sh[w0]? = some (1, 0)) <|
    bC (F_Lexer_note N w0 w1 w2 w3 l5 H) fun v13 H14 =>
    some (l4, H14)
set_option maxRecDepth 20000 in
set_option maxHeartbeats 2000000 in
theorem mB_Lexer_behindNumber_110 {N : Nat} {p0 : Nat} {p1 : Int32} {l4 : Int32} {l5 : Int32} {w0 : Nat} {w1 : Int32} {w2 : Int32} {w3 : Int32} {H : Hp} {r : Int32 × Hp} (hF : B_Lexer_behindNumber_110 N p0 p1 l4 l5 w0 w1 w2 w3 H = some r) : Sa H r.2 := by
  unfold B_Lexer_behindNumber_110 at hF
  have hm := Sa.rf H
  obtain ⟨q15, hG⟩ := ck_s hF; clear hF
  obtain ⟨v17, H18, z16, hF⟩ := bC_s hG; clear hG
  replace hm : Sa H H18 := hm.tr (m_Lexer_note z16)
  have hr := Option.some.inj hF; subst hr
  exact hm
set_option maxRecDepth 20000 in
set_option maxHeartbeats 2000000 in
theorem kB_Lexer_behindNumber_110 {N : Nat} {p0 : Nat} {p1 : Int32} {l4 : Int32} {l5 : Int32} {w0 : Nat} {w1 : Int32} {w2 : Int32} {w3 : Int32} {H : Hp} {r : Int32 × Hp} (hF : B_Lexer_behindNumber_110 N p0 p1 l4 l5 w0 w1 w2 w3 H = some r) : ab_V y_Lexer_behindNumber { frames := 1, cells := 0, slots := 0, locals := 24 } (po (.returned (some (.int r.1))) r.2) 0 0 0 0 110 [some (.ref p0), some (.int p1), none, none, some (.int l4), some (.int l5), none, none, none, none, none, none, none] [.int w3, .int w2, .int w1, .ref w0] (hpw H) := by
  unfold B_Lexer_behindNumber_110 at hF
  refine ab_iload d_Lexer_behindNumber_110 rfl ?_
  obtain ⟨q11, hG⟩ := ck_s hF; clear hF
  obtain ⟨v13, H14, z12, hF⟩ := bC_s hG; clear hG
  refine hp_callV_v (H1 := H14) (As := [.int w1, .int w2, .int w3, .int l5]) (rest := []) d_Lexer_behindNumber_112 (k_Lexer_note z12) (ab_mkC s_Lexer_note (Nat.le_of_ble_eq_true rfl) (Nat.le_of_ble_eq_true rfl) (Nat.le_refl 0) (Nat.le_refl 0)) (k4 8 rfl rfl) i_Lexer_note v_Lexer_note q11 (by decide) rfl rfl (Nat.le_of_ble_eq_true rfl) ?_
  have s_2 : Sa H H14 := (m_Lexer_note z12)
  refine ab_iload d_Lexer_behindNumber_115 rfl ?_
  exact ab_iret d_Lexer_behindNumber_117 rfl (Nat.le_refl _) (Nat.le_refl _) (by have hr := Option.some.inj hF; subst hr; exact ⟨rfl, rfl⟩)
def B_Lexer_behindNumber_94 (N : Nat) (p0 : Nat) (p1 : Int32) (l2 : Int64) (l4 : Int32) (w0 : Int32) (H : Hp) : Option (Int32 × Hp) :=
    if w0 = (0 : Int32) then
    B_Lexer_behindNumber_110 N p0 p1 l4 w0 p0 3 p1 ((l2 : Int64).toInt32) H
    else
    B_Lexer_behindNumber_110 N p0 p1 l4 w0 p0 3 p1 0 H
set_option maxRecDepth 20000 in
set_option maxHeartbeats 2000000 in
theorem mB_Lexer_behindNumber_94 {N : Nat} {p0 : Nat} {p1 : Int32} {l2 : Int64} {l4 : Int32} {w0 : Int32} {H : Hp} {r : Int32 × Hp} (hF : B_Lexer_behindNumber_94 N p0 p1 l2 l4 w0 H = some r) : Sa H r.2 := by
  unfold B_Lexer_behindNumber_94 at hF
  have hm := Sa.rf H
  rcases ite_s hF with ⟨q_4, hG⟩ | ⟨q_4, hG⟩
  · clear hF
    exact hm.tr (mB_Lexer_behindNumber_110 hG)
  · clear hF
    exact hm.tr (mB_Lexer_behindNumber_110 hG)
set_option maxRecDepth 20000 in
set_option maxHeartbeats 2000000 in
theorem kB_Lexer_behindNumber_94 {N : Nat} {p0 : Nat} {p1 : Int32} {l2 : Int64} {l4 : Int32} {w0 : Int32} {H : Hp} {r : Int32 × Hp} (hF : B_Lexer_behindNumber_94 N p0 p1 l2 l4 w0 H = some r) : ab_V y_Lexer_behindNumber { frames := 1, cells := 0, slots := 0, locals := 24 } (po (.returned (some (.int r.1))) r.2) 0 0 0 0 94 [some (.ref p0), some (.int p1), some (.long l2), none, some (.int l4), none, none, none, none, none, none, none, none] [.int w0] (hpw H) := by
  unfold B_Lexer_behindNumber_94 at hF
  refine ab_istore (lv' := [some (.ref p0), some (.int p1), some (.long l2), none, some (.int l4), some (.int w0), none, none, none, none, none, none, none]) d_Lexer_behindNumber_94 (by decide) rfl ?_
  refine ab_aload_n d_Lexer_behindNumber_96 rfl rfl rfl ?_
  refine ab_iconst (v := 3) d_Lexer_behindNumber_97 (by decide) ?_
  refine ab_iload_n d_Lexer_behindNumber_98 rfl rfl ?_
  refine ab_iload d_Lexer_behindNumber_99 rfl ?_
  refine ab_if_eq (tgt := 108) d_Lexer_behindNumber_101 (by decide) (fun q10 => ?_) (fun q10 => ?_)
  · rw [if_pos q10] at hF
    refine ab_lload_n d_Lexer_behindNumber_108 rfl rfl ?_
    refine ab_l2i d_Lexer_behindNumber_109 ?_
    refine ab_le (lv' := [some (.ref p0), some (.int p1), none, none, some (.int l4), some (.int w0), none, none, none, none, none, none, none]) ⟨rfl, ⟨rfl, ⟨rfl, ⟨rfl, trivial⟩⟩⟩⟩ ?_
    exact kB_Lexer_behindNumber_110 hF
  · rw [if_neg q10] at hF
    refine ab_iconst (v := 0) d_Lexer_behindNumber_104 (by decide) ?_
    refine ab_goto (tgt := 110) d_Lexer_behindNumber_105 (by decide) ?_
    refine ab_le (lv' := [some (.ref p0), some (.int p1), none, none, some (.int l4), some (.int w0), none, none, none, none, none, none, none]) ⟨rfl, ⟨rfl, ⟨rfl, ⟨rfl, trivial⟩⟩⟩⟩ ?_
    exact kB_Lexer_behindNumber_110 hF
def B_Lexer_behindNumber_81 (N : Nat) (p0 : Nat) (p1 : Int32) (l2 : Int64) (l4 : Int32) (H : Hp) : Option (Int32 × Hp) :=
    if (lg_cmp l2 (2147483647 : Int64)) ≤ (0 : Int32) then
    B_Lexer_behindNumber_94 N p0 p1 l2 l4 0 H
    else
    B_Lexer_behindNumber_94 N p0 p1 l2 l4 1 H
set_option maxRecDepth 20000 in
set_option maxHeartbeats 2000000 in
theorem mB_Lexer_behindNumber_81 {N : Nat} {p0 : Nat} {p1 : Int32} {l2 : Int64} {l4 : Int32} {H : Hp} {r : Int32 × Hp} (hF : B_Lexer_behindNumber_81 N p0 p1 l2 l4 H = some r) : Sa H r.2 := by
  unfold B_Lexer_behindNumber_81 at hF
  have hm := Sa.rf H
  rcases ite_s hF with ⟨q_5, hG⟩ | ⟨q_5, hG⟩
  · clear hF
    exact hm.tr (mB_Lexer_behindNumber_94 hG)
  · clear hF
    exact hm.tr (mB_Lexer_behindNumber_94 hG)
set_option maxRecDepth 20000 in
set_option maxHeartbeats 2000000 in
theorem kB_Lexer_behindNumber_81 {N : Nat} {p0 : Nat} {p1 : Int32} {l2 : Int64} {l4 : Int32} {H : Hp} {r : Int32 × Hp} (hF : B_Lexer_behindNumber_81 N p0 p1 l2 l4 H = some r) : ab_V y_Lexer_behindNumber { frames := 1, cells := 0, slots := 0, locals := 24 } (po (.returned (some (.int r.1))) r.2) 0 0 0 0 81 [some (.ref p0), some (.int p1), some (.long l2), none, some (.int l4), none, none, none, none, none, none, none, none] [] (hpw H) := by
  unfold B_Lexer_behindNumber_81 at hF
  refine ab_lload_n d_Lexer_behindNumber_81 rfl rfl ?_
  refine ab_ldc2 d_Lexer_behindNumber_82 (k4 22 rfl rfl) ?_
  refine ab_lcmp d_Lexer_behindNumber_85 ?_
  refine ab_if_le (tgt := 93) d_Lexer_behindNumber_86 (by decide) (fun q9 => ?_) (fun q9 => ?_)
  · rw [if_pos q9] at hF
    refine ab_iconst (v := 0) d_Lexer_behindNumber_93 (by decide) ?_
    exact kB_Lexer_behindNumber_94 hF
  · rw [if_neg q9] at hF
    refine ab_iconst (v := 1) d_Lexer_behindNumber_89 (by decide) ?_
    refine ab_goto (tgt := 94) d_Lexer_behindNumber_90 (by decide) ?_
    exact kB_Lexer_behindNumber_94 hF
def B_Lexer_behindNumber_257 (N : Nat) (p0 : Nat) (p1 : Int32) (l4 : Int32) (l10 : Int32) (w0 : Nat) (w1 : Int32) (w2 : Int32) (w3 : Int32) (H : Hp) : Option (Int32 × Hp) :=
    ck (H.sh[w0]? = some (1, 0)) <|
    bC (F_Lexer_note N w0 w1 w2 w3 l10 H) fun v40 H41 =>
    some (l4, H41)
set_option maxRecDepth 20000 in
set_option maxHeartbeats 2000000 in
theorem mB_Lexer_behindNumber_257 {N : Nat} {p0 : Nat} {p1 : Int32} {l4 : Int32} {l10 : Int32} {w0 : Nat} {w1 : Int32} {w2 : Int32} {w3 : Int32} {H : Hp} {r : Int32 × Hp} (hF : B_Lexer_behindNumber_257 N p0 p1 l4 l10 w0 w1 w2 w3 H = some r) : Sa H r.2 := by
  unfold B_Lexer_behindNumber_257 at hF
  have hm := Sa.rf H
  obtain ⟨q42, hG⟩ := ck_s hF; clear hF
  obtain ⟨v44, H45, z43, hF⟩ := bC_s hG; clear hG
  replace hm : Sa H H45 := hm.tr (m_Lexer_note z43)
  have hr := Option.some.inj hF; subst hr
  exact hm
set_option maxRecDepth 20000 in
set_option maxHeartbeats 2000000 in
theorem kB_Lexer_behindNumber_257 {N : Nat} {p0 : Nat} {p1 : Int32} {l4 : Int32} {l10 : Int32} {w0 : Nat} {w1 : Int32} {w2 : Int32} {w3 : Int32} {H : Hp} {r : Int32 × Hp} (hF : B_Lexer_behindNumber_257 N p0 p1 l4 l10 w0 w1 w2 w3 H = some r) : ab_V y_Lexer_behindNumber { frames := 1, cells := 0, slots := 0, locals := 24 } (po (.returned (some (.int r.1))) r.2) 0 0 0 0 257 [some (.ref p0), some (.int p1), none, none, some (.int l4), none, none, none, none, none, some (.int l10), none, none] [.int w3, .int w2, .int w1, .ref w0] (hpw H) := by
  unfold B_Lexer_behindNumber_257 at hF
  refine ab_iload d_Lexer_behindNumber_257 rfl ?_
  obtain ⟨q38, hG⟩ := ck_s hF; clear hF
  obtain ⟨v40, H41, z39, hF⟩ := bC_s hG; clear hG
  refine hp_callV_v (H1 := H41) (As := [.int w1, .int w2, .int w3, .int l10]) (rest := []) d_Lexer_behindNumber_259 (k_Lexer_note z39) (ab_mkC s_Lexer_note (Nat.le_of_ble_eq_true rfl) (Nat.le_of_ble_eq_true rfl) (Nat.le_refl 0) (Nat.le_refl 0)) (k4 8 rfl rfl) i_Lexer_note v_Lexer_note q38 (by decide) rfl rfl (Nat.le_of_ble_eq_true rfl) ?_
  have s_9 : Sa H H41 := (m_Lexer_note z39)
  refine ab_iload d_Lexer_behindNumber_262 rfl ?_
  exact ab_iret d_Lexer_behindNumber_264 rfl (Nat.le_refl _) (Nat.le_refl _) (by have hr := Option.some.inj hF; subst hr; exact ⟨rfl, rfl⟩)
def B_Lexer_behindNumber_213 (N : Nat) (p0 : Nat) (p1 : Int32) (l2 : Int64) (l4 : Int32) (l5 : Int64) (l7 : Int64) (w0 : Int32) (H : Hp) : Option (Int32 × Hp) :=
    bC (F_Math_max2 N (1 : Int64) l7 H) fun v33 H34 =>
    ck (¬ v33 = 0) <|
    bnd ((l2 <<< (((16 : Int32) : Int32).toInt64 &&& 63)) + (((l5 * (65536 : Int64)) + (l7 / (2 : Int64))) / v33)) fun x36 =>
    if w0 = (0 : Int32) then
    B_Lexer_behindNumber_257 N p0 p1 l4 w0 p0 4 p1 ((x36 : Int64).toInt32) H34
    else
    B_Lexer_behindNumber_257 N p0 p1 l4 w0 p0 4 p1 0 H34
set_option maxRecDepth 20000 in
set_option maxHeartbeats 2000000 in
theorem mB_Lexer_behindNumber_213 {N : Nat} {p0 : Nat} {p1 : Int32} {l2 : Int64} {l4 : Int32} {l5 : Int64} {l7 : Int64} {w0 : Int32} {H : Hp} {r : Int32 × Hp} (hF : B_Lexer_behindNumber_213 N p0 p1 l2 l4 l5 l7 w0 H = some r) : Sa H r.2 := by
  unfold B_Lexer_behindNumber_213 at hF
  have hm := Sa.rf H
  obtain ⟨v47, H48, z46, hG⟩ := bC_s hF; clear hF
  replace hm : Sa H H48 := hm.tr (m_Math_max2 z46)
  obtain ⟨q49, hF⟩ := ck_s hG; clear hG
  obtain ⟨x50, -, hG⟩ := bnd_g hF; clear hF
  rcases ite_s hG with ⟨q_12, hF⟩ | ⟨q_12, hF⟩
  · clear hG
    exact hm.tr (mB_Lexer_behindNumber_257 hF)
  · clear hG
    exact hm.tr (mB_Lexer_behindNumber_257 hF)
set_option maxRecDepth 20000 in
set_option maxHeartbeats 2000000 in
theorem kB_Lexer_behindNumber_213 {N : Nat} {p0 : Nat} {p1 : Int32} {l2 : Int64} {l4 : Int32} {l5 : Int64} {l7 : Int64} {w0 : Int32} {H : Hp} {r : Int32 × Hp} (hF : B_Lexer_behindNumber_213 N p0 p1 l2 l4 l5 l7 w0 H = some r) : ab_V y_Lexer_behindNumber { frames := 1, cells := 0, slots := 0, locals := 24 } (po (.returned (some (.int r.1))) r.2) 0 0 0 0 213 [some (.ref p0), some (.int p1), some (.long l2), none, some (.int l4), some (.long l5), none, some (.long l7), none, none, none, none, none] [.int w0] (hpw H) := by
  unfold B_Lexer_behindNumber_213 at hF
  refine ab_istore (lv' := [some (.ref p0), some (.int p1), some (.long l2), none, some (.int l4), some (.long l5), none, some (.long l7), none, none, some (.int w0), none, none]) d_Lexer_behindNumber_213 (by decide) rfl ?_
  refine ab_lload_n d_Lexer_behindNumber_215 rfl rfl ?_
  refine ab_bipush (v := 16) d_Lexer_behindNumber_216 (by decide) ?_
  refine ab_lshl d_Lexer_behindNumber_218 ?_
  refine ab_lload d_Lexer_behindNumber_219 rfl ?_
  refine ab_ldc2 d_Lexer_behindNumber_221 (k4 24 rfl rfl) ?_
  refine ab_lmul d_Lexer_behindNumber_224 ?_
  refine ab_lload d_Lexer_behindNumber_225 rfl ?_
  refine ab_ldc2 d_Lexer_behindNumber_227 (k4 25 rfl rfl) ?_
  refine ab_ldiv d_Lexer_behindNumber_230 (by decide) ?_
  refine ab_ladd d_Lexer_behindNumber_231 ?_
  refine ab_lconst (v := 1) d_Lexer_behindNumber_232 (by decide) ?_
  refine ab_lload d_Lexer_behindNumber_233 rfl ?_
  obtain ⟨v33, H34, z32, hG⟩ := bC_s hF; clear hF
  refine hp_callS_a (v := .long v33) (H1 := H34) (As := [.long 1, .long l7]) (rest := [.long ((l5 * (65536 : Int64)) + (l7 / (2 : Int64))), .long (l2 <<< (((16 : Int32) : Int32).toInt64 &&& 63))]) d_Lexer_behindNumber_235 (k_Math_max2 z32) (ab_mkC s_Math_max2 (Nat.le_of_ble_eq_true rfl) (Nat.le_of_ble_eq_true rfl) (Nat.le_refl 0) (Nat.le_refl 0)) (k4 26 rfl rfl) t_Math_max2 rfl (Nat.le_of_ble_eq_true rfl) ?_
  have s_8 : Sa H H34 := (m_Math_max2 z32)
  obtain ⟨q35, hF⟩ := ck_s hG; clear hG
  refine ab_ldiv d_Lexer_behindNumber_238 q35 ?_
  refine ab_ladd d_Lexer_behindNumber_239 ?_
  refine ab_topl (fun x36 ex36 => ?_)
  replace hF := bnd_s ex36 hF
  refine ab_lstore (lv' := [some (.ref p0), some (.int p1), some (.long l2), none, some (.int l4), some (.long l5), none, some (.long l7), none, none, some (.int w0), some (.long x36), none]) d_Lexer_behindNumber_240 (by decide) rfl ?_
  refine ab_aload_n d_Lexer_behindNumber_242 rfl rfl rfl ?_
  refine ab_iconst (v := 4) d_Lexer_behindNumber_243 (by decide) ?_
  refine ab_iload_n d_Lexer_behindNumber_244 rfl rfl ?_
  refine ab_iload d_Lexer_behindNumber_245 rfl ?_
  refine ab_if_eq (tgt := 254) d_Lexer_behindNumber_247 (by decide) (fun q37 => ?_) (fun q37 => ?_)
  · rw [if_pos q37] at hF
    refine ab_lload d_Lexer_behindNumber_254 rfl ?_
    refine ab_l2i d_Lexer_behindNumber_256 ?_
    refine ab_le (lv' := [some (.ref p0), some (.int p1), none, none, some (.int l4), none, none, none, none, none, some (.int w0), none, none]) ⟨rfl, ⟨rfl, ⟨rfl, ⟨rfl, trivial⟩⟩⟩⟩ ?_
    exact kB_Lexer_behindNumber_257 hF
  · rw [if_neg q37] at hF
    refine ab_iconst (v := 0) d_Lexer_behindNumber_250 (by decide) ?_
    refine ab_goto (tgt := 257) d_Lexer_behindNumber_251 (by decide) ?_
    refine ab_le (lv' := [some (.ref p0), some (.int p1), none, none, some (.int l4), none, none, none, none, none, some (.int w0), none, none]) ⟨rfl, ⟨rfl, ⟨rfl, ⟨rfl, trivial⟩⟩⟩⟩ ?_
    exact kB_Lexer_behindNumber_257 hF
def B_Lexer_behindNumber_208 (N : Nat) (p0 : Nat) (p1 : Int32) (l2 : Int64) (l4 : Int32) (l5 : Int64) (l7 : Int64) (H : Hp) : Option (Int32 × Hp) :=
    B_Lexer_behindNumber_213 N p0 p1 l2 l4 l5 l7 1 H
set_option maxRecDepth 20000 in
set_option maxHeartbeats 2000000 in
theorem mB_Lexer_behindNumber_208 {N : Nat} {p0 : Nat} {p1 : Int32} {l2 : Int64} {l4 : Int32} {l5 : Int64} {l7 : Int64} {H : Hp} {r : Int32 × Hp} (hF : B_Lexer_behindNumber_208 N p0 p1 l2 l4 l5 l7 H = some r) : Sa H r.2 := by
  unfold B_Lexer_behindNumber_208 at hF
  have hm := Sa.rf H
  exact hm.tr (mB_Lexer_behindNumber_213 hF)
set_option maxRecDepth 20000 in
set_option maxHeartbeats 2000000 in
theorem kB_Lexer_behindNumber_208 {N : Nat} {p0 : Nat} {p1 : Int32} {l2 : Int64} {l4 : Int32} {l5 : Int64} {l7 : Int64} {H : Hp} {r : Int32 × Hp} (hF : B_Lexer_behindNumber_208 N p0 p1 l2 l4 l5 l7 H = some r) : ab_V y_Lexer_behindNumber { frames := 1, cells := 0, slots := 0, locals := 24 } (po (.returned (some (.int r.1))) r.2) 0 0 0 0 208 [some (.ref p0), some (.int p1), some (.long l2), none, some (.int l4), some (.long l5), none, some (.long l7), none, none, none, none, none] [] (hpw H) := by
  unfold B_Lexer_behindNumber_208 at hF
  refine ab_iconst (v := 1) d_Lexer_behindNumber_208 (by decide) ?_
  refine ab_goto (tgt := 213) d_Lexer_behindNumber_209 (by decide) ?_
  exact kB_Lexer_behindNumber_213 hF
def B_Lexer_behindNumber_194 (N : Nat) (p0 : Nat) (p1 : Int32) (l2 : Int64) (l4 : Int32) (l5 : Int64) (l7 : Int64) (l9 : Int32) (H : Hp) : Option (Int32 × Hp) :=
    if (0 : Int32) < (lg_cmp l2 (32767 : Int64)) then
    B_Lexer_behindNumber_208 N p0 p1 l2 l4 l5 l7 H
    else
    if l9 ≤ (4 : Int32) then
    B_Lexer_behindNumber_213 N p0 p1 l2 l4 l5 l7 0 H
    else
    B_Lexer_behindNumber_208 N p0 p1 l2 l4 l5 l7 H
set_option maxRecDepth 20000 in
set_option maxHeartbeats 2000000 in
theorem mB_Lexer_behindNumber_194 {N : Nat} {p0 : Nat} {p1 : Int32} {l2 : Int64} {l4 : Int32} {l5 : Int64} {l7 : Int64} {l9 : Int32} {H : Hp} {r : Int32 × Hp} (hF : B_Lexer_behindNumber_194 N p0 p1 l2 l4 l5 l7 l9 H = some r) : Sa H r.2 := by
  unfold B_Lexer_behindNumber_194 at hF
  have hm := Sa.rf H
  rcases ite_s hF with ⟨q_13, hG⟩ | ⟨q_13, hG⟩
  · clear hF
    exact hm.tr (mB_Lexer_behindNumber_208 hG)
  · clear hF
    rcases ite_s hG with ⟨q_14, hF⟩ | ⟨q_14, hF⟩
    · clear hG
      exact hm.tr (mB_Lexer_behindNumber_213 hF)
    · clear hG
      exact hm.tr (mB_Lexer_behindNumber_208 hF)
set_option maxRecDepth 20000 in
set_option maxHeartbeats 2000000 in
theorem kB_Lexer_behindNumber_194 {N : Nat} {p0 : Nat} {p1 : Int32} {l2 : Int64} {l4 : Int32} {l5 : Int64} {l7 : Int64} {l9 : Int32} {H : Hp} {r : Int32 × Hp} (hF : B_Lexer_behindNumber_194 N p0 p1 l2 l4 l5 l7 l9 H = some r) : ab_V y_Lexer_behindNumber { frames := 1, cells := 0, slots := 0, locals := 24 } (po (.returned (some (.int r.1))) r.2) 0 0 0 0 194 [some (.ref p0), some (.int p1), some (.long l2), none, some (.int l4), some (.long l5), none, some (.long l7), none, some (.int l9), none, none, none] [] (hpw H) := by
  unfold B_Lexer_behindNumber_194 at hF
  refine ab_lload_n d_Lexer_behindNumber_194 rfl rfl ?_
  refine ab_ldc2 d_Lexer_behindNumber_195 (k4 23 rfl rfl) ?_
  refine ab_lcmp d_Lexer_behindNumber_198 ?_
  refine ab_if_gt (tgt := 208) d_Lexer_behindNumber_199 (by decide) (fun q31 => ?_) (fun q31 => ?_)
  · rw [if_pos q31] at hF
    refine ab_le (lv' := [some (.ref p0), some (.int p1), some (.long l2), none, some (.int l4), some (.long l5), none, some (.long l7), none, none, none, none, none]) ⟨rfl, ⟨rfl, ⟨rfl, ⟨rfl, ⟨rfl, ⟨rfl, trivial⟩⟩⟩⟩⟩⟩ ?_
    exact kB_Lexer_behindNumber_208 hF
  · rw [if_neg q31] at hF
    refine ab_iload d_Lexer_behindNumber_202 rfl ?_
    refine ab_iconst (v := 4) d_Lexer_behindNumber_204 (by decide) ?_
    refine ab_icmp_le (tgt := 212) d_Lexer_behindNumber_205 (by decide) (fun q52 => ?_) (fun q52 => ?_)
    · rw [if_pos q52] at hF
      refine ab_iconst (v := 0) d_Lexer_behindNumber_212 (by decide) ?_
      refine ab_le (lv' := [some (.ref p0), some (.int p1), some (.long l2), none, some (.int l4), some (.long l5), none, some (.long l7), none, none, none, none, none]) ⟨rfl, ⟨rfl, ⟨rfl, ⟨rfl, ⟨rfl, ⟨rfl, trivial⟩⟩⟩⟩⟩⟩ ?_
      exact kB_Lexer_behindNumber_213 hF
    · rw [if_neg q52] at hF
      refine ab_le (lv' := [some (.ref p0), some (.int p1), some (.long l2), none, some (.int l4), some (.long l5), none, some (.long l7), none, none, none, none, none]) ⟨rfl, ⟨rfl, ⟨rfl, ⟨rfl, ⟨rfl, ⟨rfl, trivial⟩⟩⟩⟩⟩⟩ ?_
      exact kB_Lexer_behindNumber_208 hF
def B_Lexer_behindNumber_188 (N : Nat) (p0 : Nat) (p1 : Int32) (kq130 : Int64 → Int32 → Int64 → Int64 → Int32 → Hp → Option (Int32 × Hp)) (l2 : Int64) (l4 : Int32) (l5 : Int64) (l7 : Int64) (l9 : Int32) (H : Hp) : Option (Int32 × Hp) :=
    kq130 l2 (l4 + 1) l5 l7 l9 H
set_option maxRecDepth 20000 in
set_option maxHeartbeats 2000000 in
theorem mB_Lexer_behindNumber_188 {N : Nat} {p0 : Nat} {p1 : Int32} {kq130 : Int64 → Int32 → Int64 → Int64 → Int32 → Hp → Option (Int32 × Hp)} (hm130 : ∀ (l2 : Int64) (l4 : Int32) (l5 : Int64) (l7 : Int64) (l9 : Int32) (H : Hp) (r : Int32 × Hp), kq130 l2 l4 l5 l7 l9 H = some r → Sa H r.2) {l2 : Int64} {l4 : Int32} {l5 : Int64} {l7 : Int64} {l9 : Int32} {H : Hp} {r : Int32 × Hp} (hF : B_Lexer_behindNumber_188 N p0 p1 kq130 l2 l4 l5 l7 l9 H = some r) : Sa H r.2 := by
  unfold B_Lexer_behindNumber_188 at hF
  have hm := Sa.rf H
  exact hm.tr (hm130 l2 (l4 + 1) l5 l7 l9 H r hF)
set_option maxRecDepth 20000 in
set_option maxHeartbeats 2000000 in
theorem kB_Lexer_behindNumber_188 {N : Nat} {p0 : Nat} {p1 : Int32} {kq130 : Int64 → Int32 → Int64 → Int64 → Int32 → Hp → Option (Int32 × Hp)} (hm130 : ∀ (l2 : Int64) (l4 : Int32) (l5 : Int64) (l7 : Int64) (l9 : Int32) (H : Hp) (r : Int32 × Hp), kq130 l2 l4 l5 l7 l9 H = some r → Sa H r.2) (hk130 : ∀ (l2 : Int64) (l4 : Int32) (l5 : Int64) (l7 : Int64) (l9 : Int32) (H : Hp) (r : Int32 × Hp), kq130 l2 l4 l5 l7 l9 H = some r → ab_V y_Lexer_behindNumber { frames := 1, cells := 0, slots := 0, locals := 24 } (po (.returned (some (.int r.1))) r.2) 0 0 0 0 130 [some (.ref p0), some (.int p1), some (.long l2), none, some (.int l4), some (.long l5), none, some (.long l7), none, some (.int l9), none, none, none] [] (hpw H)) {l2 : Int64} {l4 : Int32} {l5 : Int64} {l7 : Int64} {l9 : Int32} {H : Hp} {r : Int32 × Hp} (hF : B_Lexer_behindNumber_188 N p0 p1 kq130 l2 l4 l5 l7 l9 H = some r) : ab_V y_Lexer_behindNumber { frames := 1, cells := 0, slots := 0, locals := 24 } (po (.returned (some (.int r.1))) r.2) 0 0 0 0 188 [some (.ref p0), some (.int p1), some (.long l2), none, some (.int l4), some (.long l5), none, some (.long l7), none, some (.int l9), none, none, none] [] (hpw H) := by
  unfold B_Lexer_behindNumber_188 at hF
  refine ab_iinc (v := l4 + 1) (lv' := [some (.ref p0), some (.int p1), some (.long l2), none, some (.int (l4 + 1)), some (.long l5), none, some (.long l7), none, some (.int l9), none, none, none]) d_Lexer_behindNumber_188 rfl rfl (by decide) rfl ?_
  refine ab_goto (tgt := 130) d_Lexer_behindNumber_191 (by decide) ?_
  exact hk130 l2 (l4 + 1) l5 l7 l9 H r hF
def B_Lexer_behindNumber_130 (N : Nat) (p0 : Nat) (p1 : Int32) : Nat → Int64 → Int32 → Int64 → Int64 → Int32 → Hp → Option (Int32 × Hp)
  | 0, _, _, _, _, _, _ => none
  | n + 1, l2, l4, l5, l7, l9, H =>
    ck (H.sh[p0]? = some (1, 0)) <|
    bnd ((H.D p0 1)) fun x29 =>
    if x29 ≤ l4 then
    B_Lexer_behindNumber_194 N p0 p1 l2 l4 l5 l7 l9 H
    else
    bC (F_Lexer_byteAt N p0 l4 H) fun v56 H57 =>
    bC (F_Lexer_isDigit N v56 H57) fun v59 H60 =>
    if v59 = (0 : Int32) then
    B_Lexer_behindNumber_194 N p0 p1 l2 l4 l5 l7 l9 H60
    else
    if (4 : Int32) < (l9 + 1) then
    B_Lexer_behindNumber_188 N p0 p1 (fun l2 l4 l5 l7 l9 H => B_Lexer_behindNumber_130 N p0 p1 n l2 l4 l5 l7 l9 H) l2 l4 l5 l7 (l9 + 1) H60
    else
    bC (F_Lexer_byteAt N p0 l4 H60) fun v64 H65 =>
    bnd (((l5 * (10 : Int64)) + ((v64 : Int32).toInt64)) - (48 : Int64)) fun x66 =>
    bnd (l7 * (10 : Int64)) fun x67 =>
    B_Lexer_behindNumber_188 N p0 p1 (fun l2 l4 l5 l7 l9 H => B_Lexer_behindNumber_130 N p0 p1 n l2 l4 l5 l7 l9 H) l2 l4 x66 x67 (l9 + 1) H65
termination_by structural n => n
set_option maxRecDepth 20000 in
set_option maxHeartbeats 2000000 in
theorem mB_Lexer_behindNumber_130 {N : Nat} {p0 : Nat} {p1 : Int32} : ∀ (n : Nat) (l2 : Int64) (l4 : Int32) (l5 : Int64) (l7 : Int64) (l9 : Int32) (H : Hp) (r : Int32 × Hp), B_Lexer_behindNumber_130 N p0 p1 n l2 l4 l5 l7 l9 H = some r → Sa H r.2 := by
  intro n
  induction n with
  | zero => intro l2 l4 l5 l7 l9 H r hF; rw [B_Lexer_behindNumber_130] at hF; cases hF
  | succ n ih =>
    intro l2 l4 l5 l7 l9 H r hF
    rw [B_Lexer_behindNumber_130] at hF
    have hm := Sa.rf H
    obtain ⟨q68, hG⟩ := ck_s hF; clear hF
    obtain ⟨x69, -, hF⟩ := bnd_g hG; clear hG
    rcases ite_s hF with ⟨q_18, hG⟩ | ⟨q_18, hG⟩
    · clear hF
      exact hm.tr (mB_Lexer_behindNumber_194 hG)
    · clear hF
      obtain ⟨v72, H73, z71, hF⟩ := bC_s hG; clear hG
      replace hm : Sa H H73 := hm.tr (m_Lexer_byteAt z71)
      obtain ⟨v75, H76, z74, hG⟩ := bC_s hF; clear hF
      replace hm : Sa H H76 := hm.tr (m_Lexer_isDigit z74)
      rcases ite_s hG with ⟨q_21, hF⟩ | ⟨q_21, hF⟩
      · clear hG
        exact hm.tr (mB_Lexer_behindNumber_194 hF)
      · clear hG
        rcases ite_s hF with ⟨q_22, hG⟩ | ⟨q_22, hG⟩
        · clear hF
          exact hm.tr (mB_Lexer_behindNumber_188 ih hG)
        · clear hF
          obtain ⟨v80, H81, z79, hF⟩ := bC_s hG; clear hG
          replace hm : Sa H H81 := hm.tr (m_Lexer_byteAt z79)
          obtain ⟨x82, -, hG⟩ := bnd_g hF; clear hF
          obtain ⟨x83, -, hF⟩ := bnd_g hG; clear hG
          exact hm.tr (mB_Lexer_behindNumber_188 ih hF)
set_option maxRecDepth 20000 in
set_option maxHeartbeats 2000000 in
theorem kB_Lexer_behindNumber_130 {N : Nat} {p0 : Nat} {p1 : Int32} : ∀ (n : Nat) (l2 : Int64) (l4 : Int32) (l5 : Int64) (l7 : Int64) (l9 : Int32) (H : Hp) (r : Int32 × Hp), B_Lexer_behindNumber_130 N p0 p1 n l2 l4 l5 l7 l9 H = some r → ab_V y_Lexer_behindNumber { frames := 1, cells := 0, slots := 0, locals := 24 } (po (.returned (some (.int r.1))) r.2) 0 0 0 0 130 [some (.ref p0), some (.int p1), some (.long l2), none, some (.int l4), some (.long l5), none, some (.long l7), none, some (.int l9), none, none, none] [] (hpw H) := by
  intro n
  induction n with
  | zero => intro l2 l4 l5 l7 l9 H r hF; rw [B_Lexer_behindNumber_130] at hF; cases hF
  | succ n ih =>
    intro l2 l4 l5 l7 l9 H r hF
    rw [B_Lexer_behindNumber_130] at hF
    refine ab_iload d_Lexer_behindNumber_130 rfl ?_
    refine ab_aload_n d_Lexer_behindNumber_132 rfl rfl rfl ?_
    obtain ⟨q28, hG⟩ := ck_s hF; clear hF
    refine hp_getI (f := 1) d_Lexer_behindNumber_133 q28 (by decide) rfl (by decide) (k1 95 rfl rfl) rfl ?_
    refine ab_topi (fun x29 ex29 => ?_)
    replace hG := bnd_s ex29 hG
    refine ab_icmp_ge (tgt := 194) d_Lexer_behindNumber_136 (by decide) (fun q30 => ?_) (fun q30 => ?_)
    · rw [if_pos q30] at hG
      exact kB_Lexer_behindNumber_194 hG
    · rw [if_neg q30] at hG
      refine ab_aload_n d_Lexer_behindNumber_139 rfl rfl rfl ?_
      refine ab_iload d_Lexer_behindNumber_140 rfl ?_
      obtain ⟨v56, H57, z55, hF⟩ := bC_s hG; clear hG
      refine hp_callV_a (v := .int v56) (H1 := H57) (As := [.int l4]) (rest := []) d_Lexer_behindNumber_142 (k_Lexer_byteAt z55) (ab_mkC s_Lexer_byteAt (Nat.le_of_ble_eq_true rfl) (Nat.le_of_ble_eq_true rfl) (Nat.le_refl 0) (Nat.le_refl 0)) (k3 226 rfl rfl) i_Lexer_byteAt v_Lexer_byteAt q28 (by decide) rfl rfl (Nat.le_of_ble_eq_true rfl) ?_
      have s_15 : Sa H H57 := (m_Lexer_byteAt z55)
      obtain ⟨v59, H60, z58, hG⟩ := bC_s hF; clear hF
      refine hp_callS_a (v := .int v59) (H1 := H60) (As := [.int v56]) (rest := []) d_Lexer_behindNumber_145 (k_Lexer_isDigit z58) (ab_mkC s_Lexer_isDigit (Nat.le_of_ble_eq_true rfl) (Nat.le_of_ble_eq_true rfl) (Nat.le_refl 0) (Nat.le_refl 0)) (k4 1 rfl rfl) t_Lexer_isDigit rfl (Nat.le_of_ble_eq_true rfl) ?_
      have s_16 : Sa H H60 := (s_15).tr (m_Lexer_isDigit z58)
      refine ab_if_eq (tgt := 194) d_Lexer_behindNumber_148 (by decide) (fun q61 => ?_) (fun q61 => ?_)
      · rw [if_pos q61] at hG
        exact kB_Lexer_behindNumber_194 hG
      · rw [if_neg q61] at hG
        refine ab_iinc (v := l9 + 1) (lv' := [some (.ref p0), some (.int p1), some (.long l2), none, some (.int l4), some (.long l5), none, some (.long l7), none, some (.int (l9 + 1)), none, none, none]) d_Lexer_behindNumber_151 rfl rfl (by decide) rfl ?_
        refine ab_iload d_Lexer_behindNumber_154 rfl ?_
        refine ab_iconst (v := 4) d_Lexer_behindNumber_156 (by decide) ?_
        refine ab_icmp_gt (tgt := 188) d_Lexer_behindNumber_157 (by decide) (fun q62 => ?_) (fun q62 => ?_)
        · rw [if_pos q62] at hG
          exact kB_Lexer_behindNumber_188 (mB_Lexer_behindNumber_130 n) ih hG
        · rw [if_neg q62] at hG
          refine ab_lload d_Lexer_behindNumber_160 rfl ?_
          refine ab_ldc2 d_Lexer_behindNumber_162 (k4 16 rfl rfl) ?_
          refine ab_lmul d_Lexer_behindNumber_165 ?_
          refine ab_aload_n d_Lexer_behindNumber_166 rfl rfl rfl ?_
          refine ab_iload d_Lexer_behindNumber_167 rfl ?_
          obtain ⟨v64, H65, z63, hF⟩ := bC_s hG; clear hG
          refine hp_callV_a (v := .int v64) (H1 := H65) (As := [.int l4]) (rest := [.long (l5 * (10 : Int64))]) d_Lexer_behindNumber_169 (k_Lexer_byteAt z63) (ab_mkC s_Lexer_byteAt (Nat.le_of_ble_eq_true rfl) (Nat.le_of_ble_eq_true rfl) (Nat.le_refl 0) (Nat.le_refl 0)) (k3 226 rfl rfl) i_Lexer_byteAt v_Lexer_byteAt (by rw [(s_16).1]; exact q28) (by decide) rfl rfl (Nat.le_of_ble_eq_true rfl) ?_
          have s_17 : Sa H H65 := (s_16).tr (m_Lexer_byteAt z63)
          refine ab_i2l d_Lexer_behindNumber_172 ?_
          refine ab_ladd d_Lexer_behindNumber_173 ?_
          refine ab_ldc2 d_Lexer_behindNumber_174 (k4 17 rfl rfl) ?_
          refine ab_lsub d_Lexer_behindNumber_177 ?_
          refine ab_topl (fun x66 ex66 => ?_)
          replace hF := bnd_s ex66 hF
          refine ab_lstore (lv' := [some (.ref p0), some (.int p1), some (.long l2), none, some (.int l4), some (.long x66), none, some (.long l7), none, some (.int (l9 + 1)), none, none, none]) d_Lexer_behindNumber_178 (by decide) rfl ?_
          refine ab_lload d_Lexer_behindNumber_180 rfl ?_
          refine ab_ldc2 d_Lexer_behindNumber_182 (k4 16 rfl rfl) ?_
          refine ab_lmul d_Lexer_behindNumber_185 ?_
          refine ab_topl (fun x67 ex67 => ?_)
          replace hF := bnd_s ex67 hF
          refine ab_lstore (lv' := [some (.ref p0), some (.int p1), some (.long l2), none, some (.int l4), some (.long x66), none, some (.long x67), none, some (.int (l9 + 1)), none, none, none]) d_Lexer_behindNumber_186 (by decide) rfl ?_
          exact kB_Lexer_behindNumber_188 (mB_Lexer_behindNumber_130 n) ih hF
def B_Lexer_behindNumber_56 (N : Nat) (p0 : Nat) (p1 : Int32) (l2 : Int64) (l4 : Int32) (H : Hp) : Option (Int32 × Hp) :=
    ck (H.sh[p0]? = some (1, 0)) <|
    bC (F_Lexer_byteAt N p0 l4 H) fun v6 H7 =>
    if v6 = (46 : Int32) then
    bC (F_Lexer_byteAt N p0 (l4 + (1 : Int32)) H7) fun v22 H23 =>
    bC (F_Lexer_isDigit N v22 H23) fun v25 H26 =>
    if v25 = (0 : Int32) then
    B_Lexer_behindNumber_81 N p0 p1 l2 l4 H26
    else
    B_Lexer_behindNumber_130 N p0 p1 N l2 (l4 + 1) 0 1 0 H26
    else
    B_Lexer_behindNumber_81 N p0 p1 l2 l4 H7
set_option maxRecDepth 20000 in
set_option maxHeartbeats 2000000 in
theorem mB_Lexer_behindNumber_56 {N : Nat} {p0 : Nat} {p1 : Int32} {l2 : Int64} {l4 : Int32} {H : Hp} {r : Int32 × Hp} (hF : B_Lexer_behindNumber_56 N p0 p1 l2 l4 H = some r) : Sa H r.2 := by
  unfold B_Lexer_behindNumber_56 at hF
  have hm := Sa.rf H
  obtain ⟨q84, hG⟩ := ck_s hF; clear hF
  obtain ⟨v86, H87, z85, hF⟩ := bC_s hG; clear hG
  replace hm : Sa H H87 := hm.tr (m_Lexer_byteAt z85)
  rcases ite_s hF with ⟨q_25, hG⟩ | ⟨q_25, hG⟩
  · clear hF
    obtain ⟨v90, H91, z89, hF⟩ := bC_s hG; clear hG
    replace hm : Sa H H91 := hm.tr (m_Lexer_byteAt z89)
    obtain ⟨v93, H94, z92, hG⟩ := bC_s hF; clear hF
    replace hm : Sa H H94 := hm.tr (m_Lexer_isDigit z92)
    rcases ite_s hG with ⟨q_28, hF⟩ | ⟨q_28, hF⟩
    · clear hG
      exact hm.tr (mB_Lexer_behindNumber_81 hF)
    · clear hG
      exact hm.tr (mB_Lexer_behindNumber_130 N l2 (l4 + 1) 0 1 0 H94 r hF)
  · clear hF
    exact hm.tr (mB_Lexer_behindNumber_81 hG)
set_option maxRecDepth 20000 in
set_option maxHeartbeats 2000000 in
theorem kB_Lexer_behindNumber_56 {N : Nat} {p0 : Nat} {p1 : Int32} {l2 : Int64} {l4 : Int32} {H : Hp} {r : Int32 × Hp} (hF : B_Lexer_behindNumber_56 N p0 p1 l2 l4 H = some r) : ab_V y_Lexer_behindNumber { frames := 1, cells := 0, slots := 0, locals := 24 } (po (.returned (some (.int r.1))) r.2) 0 0 0 0 56 [some (.ref p0), some (.int p1), some (.long l2), none, some (.int l4), none, none, none, none, none, none, none, none] [] (hpw H) := by
  unfold B_Lexer_behindNumber_56 at hF
  refine ab_aload_n d_Lexer_behindNumber_56 rfl rfl rfl ?_
  refine ab_iload d_Lexer_behindNumber_57 rfl ?_
  obtain ⟨q4, hG⟩ := ck_s hF; clear hF
  obtain ⟨v6, H7, z5, hF⟩ := bC_s hG; clear hG
  refine hp_callV_a (v := .int v6) (H1 := H7) (As := [.int l4]) (rest := []) d_Lexer_behindNumber_59 (k_Lexer_byteAt z5) (ab_mkC s_Lexer_byteAt (Nat.le_of_ble_eq_true rfl) (Nat.le_of_ble_eq_true rfl) (Nat.le_refl 0) (Nat.le_refl 0)) (k3 226 rfl rfl) i_Lexer_byteAt v_Lexer_byteAt q4 (by decide) rfl rfl (Nat.le_of_ble_eq_true rfl) ?_
  have s_1 : Sa H H7 := (m_Lexer_byteAt z5)
  refine ab_bipush (v := 46) d_Lexer_behindNumber_62 (by decide) ?_
  refine ab_icmp_ne (tgt := 81) d_Lexer_behindNumber_64 (by decide) (fun q8 => ?_) (fun q8 => ?_)
  · rw [if_neg q8] at hF
    exact kB_Lexer_behindNumber_81 hF
  · rw [if_pos q8] at hF
    refine ab_aload_n d_Lexer_behindNumber_67 rfl rfl rfl ?_
    refine ab_iload d_Lexer_behindNumber_68 rfl ?_
    refine ab_iconst (v := 1) d_Lexer_behindNumber_70 (by decide) ?_
    refine ab_iadd d_Lexer_behindNumber_71 ?_
    obtain ⟨v22, H23, z21, hG⟩ := bC_s hF; clear hF
    refine hp_callV_a (v := .int v22) (H1 := H23) (As := [.int (l4 + (1 : Int32))]) (rest := []) d_Lexer_behindNumber_72 (k_Lexer_byteAt z21) (ab_mkC s_Lexer_byteAt (Nat.le_of_ble_eq_true rfl) (Nat.le_of_ble_eq_true rfl) (Nat.le_refl 0) (Nat.le_refl 0)) (k3 226 rfl rfl) i_Lexer_byteAt v_Lexer_byteAt (by rw [(s_1).1]; exact q4) (by decide) rfl rfl (Nat.le_of_ble_eq_true rfl) ?_
    have s_6 : Sa H H23 := (s_1).tr (m_Lexer_byteAt z21)
    obtain ⟨v25, H26, z24, hF⟩ := bC_s hG; clear hG
    refine hp_callS_a (v := .int v25) (H1 := H26) (As := [.int v22]) (rest := []) d_Lexer_behindNumber_75 (k_Lexer_isDigit z24) (ab_mkC s_Lexer_isDigit (Nat.le_of_ble_eq_true rfl) (Nat.le_of_ble_eq_true rfl) (Nat.le_refl 0) (Nat.le_refl 0)) (k4 1 rfl rfl) t_Lexer_isDigit rfl (Nat.le_of_ble_eq_true rfl) ?_
    have s_7 : Sa H H26 := (s_6).tr (m_Lexer_isDigit z24)
    refine ab_if_ne (tgt := 118) d_Lexer_behindNumber_78 (by decide) (fun q27 => ?_) (fun q27 => ?_)
    · rw [if_neg q27] at hF
      refine ab_lconst (v := 0) d_Lexer_behindNumber_118 (by decide) ?_
      refine ab_lstore (lv' := [some (.ref p0), some (.int p1), some (.long l2), none, some (.int l4), some (.long 0), none, none, none, none, none, none, none]) d_Lexer_behindNumber_119 (by decide) rfl ?_
      refine ab_lconst (v := 1) d_Lexer_behindNumber_121 (by decide) ?_
      refine ab_lstore (lv' := [some (.ref p0), some (.int p1), some (.long l2), none, some (.int l4), some (.long 0), none, some (.long 1), none, none, none, none, none]) d_Lexer_behindNumber_122 (by decide) rfl ?_
      refine ab_iconst (v := 0) d_Lexer_behindNumber_124 (by decide) ?_
      refine ab_istore (lv' := [some (.ref p0), some (.int p1), some (.long l2), none, some (.int l4), some (.long 0), none, some (.long 1), none, some (.int 0), none, none, none]) d_Lexer_behindNumber_125 (by decide) rfl ?_
      refine ab_iinc (v := l4 + 1) (lv' := [some (.ref p0), some (.int p1), some (.long l2), none, some (.int (l4 + 1)), some (.long 0), none, some (.long 1), none, some (.int 0), none, none, none]) d_Lexer_behindNumber_127 rfl rfl (by decide) rfl ?_
      exact kB_Lexer_behindNumber_130 N l2 (l4 + 1) 0 1 0 H26 r hF
    · rw [if_pos q27] at hF
      exact kB_Lexer_behindNumber_81 hF
def B_Lexer_behindNumber_5 (N : Nat) (p0 : Nat) (p1 : Int32) : Nat → Int64 → Int32 → Hp → Option (Int32 × Hp)
  | 0, _, _, _ => none
  | n + 1, l2, l4, H =>
    ck (H.sh[p0]? = some (1, 0)) <|
    bnd ((H.D p0 1)) fun x2 =>
    if x2 ≤ l4 then
    B_Lexer_behindNumber_56 N p0 p1 l2 l4 H
    else
    bC (F_Lexer_byteAt N p0 l4 H) fun v97 H98 =>
    bC (F_Lexer_isDigit N v97 H98) fun v100 H101 =>
    if v100 = (0 : Int32) then
    B_Lexer_behindNumber_56 N p0 p1 l2 l4 H101
    else
    bC (F_Lexer_byteAt N p0 l4 H101) fun v104 H105 =>
    bnd (((l2 * (10 : Int64)) + ((v104 : Int32).toInt64)) - (48 : Int64)) fun x106 =>
    bC (F_Math_min2 N x106 (1099511627776 : Int64) H105) fun v108 H109 =>
    B_Lexer_behindNumber_5 N p0 p1 n v108 (l4 + 1) H109
termination_by structural n => n
set_option maxRecDepth 20000 in
set_option maxHeartbeats 2000000 in
theorem mB_Lexer_behindNumber_5 {N : Nat} {p0 : Nat} {p1 : Int32} : ∀ (n : Nat) (l2 : Int64) (l4 : Int32) (H : Hp) (r : Int32 × Hp), B_Lexer_behindNumber_5 N p0 p1 n l2 l4 H = some r → Sa H r.2 := by
  intro n
  induction n with
  | zero => intro l2 l4 H r hF; rw [B_Lexer_behindNumber_5] at hF; cases hF
  | succ n ih =>
    intro l2 l4 H r hF
    rw [B_Lexer_behindNumber_5] at hF
    have hm := Sa.rf H
    obtain ⟨q110, hG⟩ := ck_s hF; clear hF
    obtain ⟨x111, -, hF⟩ := bnd_g hG; clear hG
    rcases ite_s hF with ⟨q_33, hG⟩ | ⟨q_33, hG⟩
    · clear hF
      exact hm.tr (mB_Lexer_behindNumber_56 hG)
    · clear hF
      obtain ⟨v114, H115, z113, hF⟩ := bC_s hG; clear hG
      replace hm : Sa H H115 := hm.tr (m_Lexer_byteAt z113)
      obtain ⟨v117, H118, z116, hG⟩ := bC_s hF; clear hF
      replace hm : Sa H H118 := hm.tr (m_Lexer_isDigit z116)
      rcases ite_s hG with ⟨q_36, hF⟩ | ⟨q_36, hF⟩
      · clear hG
        exact hm.tr (mB_Lexer_behindNumber_56 hF)
      · clear hG
        obtain ⟨v121, H122, z120, hG⟩ := bC_s hF; clear hF
        replace hm : Sa H H122 := hm.tr (m_Lexer_byteAt z120)
        obtain ⟨x123, -, hF⟩ := bnd_g hG; clear hG
        obtain ⟨v125, H126, z124, hG⟩ := bC_s hF; clear hF
        replace hm : Sa H H126 := hm.tr (m_Math_min2 z124)
        exact hm.tr (ih v125 (l4 + 1) H126 r hG)
set_option maxRecDepth 20000 in
set_option maxHeartbeats 2000000 in
theorem kB_Lexer_behindNumber_5 {N : Nat} {p0 : Nat} {p1 : Int32} : ∀ (n : Nat) (l2 : Int64) (l4 : Int32) (H : Hp) (r : Int32 × Hp), B_Lexer_behindNumber_5 N p0 p1 n l2 l4 H = some r → ab_V y_Lexer_behindNumber { frames := 1, cells := 0, slots := 0, locals := 24 } (po (.returned (some (.int r.1))) r.2) 0 0 0 0 5 [some (.ref p0), some (.int p1), some (.long l2), none, some (.int l4), none, none, none, none, none, none, none, none] [] (hpw H) := by
  intro n
  induction n with
  | zero => intro l2 l4 H r hF; rw [B_Lexer_behindNumber_5] at hF; cases hF
  | succ n ih =>
    intro l2 l4 H r hF
    rw [B_Lexer_behindNumber_5] at hF
    refine ab_iload d_Lexer_behindNumber_5 rfl ?_
    refine ab_aload_n d_Lexer_behindNumber_7 rfl rfl rfl ?_
    obtain ⟨q1, hG⟩ := ck_s hF; clear hF
    refine hp_getI (f := 1) d_Lexer_behindNumber_8 q1 (by decide) rfl (by decide) (k1 95 rfl rfl) rfl ?_
    refine ab_topi (fun x2 ex2 => ?_)
    replace hG := bnd_s ex2 hG
    refine ab_icmp_ge (tgt := 56) d_Lexer_behindNumber_11 (by decide) (fun q3 => ?_) (fun q3 => ?_)
    · rw [if_pos q3] at hG
      exact kB_Lexer_behindNumber_56 hG
    · rw [if_neg q3] at hG
      refine ab_aload_n d_Lexer_behindNumber_14 rfl rfl rfl ?_
      refine ab_iload d_Lexer_behindNumber_15 rfl ?_
      obtain ⟨v97, H98, z96, hF⟩ := bC_s hG; clear hG
      refine hp_callV_a (v := .int v97) (H1 := H98) (As := [.int l4]) (rest := []) d_Lexer_behindNumber_17 (k_Lexer_byteAt z96) (ab_mkC s_Lexer_byteAt (Nat.le_of_ble_eq_true rfl) (Nat.le_of_ble_eq_true rfl) (Nat.le_refl 0) (Nat.le_refl 0)) (k3 226 rfl rfl) i_Lexer_byteAt v_Lexer_byteAt q1 (by decide) rfl rfl (Nat.le_of_ble_eq_true rfl) ?_
      have s_29 : Sa H H98 := (m_Lexer_byteAt z96)
      obtain ⟨v100, H101, z99, hG⟩ := bC_s hF; clear hF
      refine hp_callS_a (v := .int v100) (H1 := H101) (As := [.int v97]) (rest := []) d_Lexer_behindNumber_20 (k_Lexer_isDigit z99) (ab_mkC s_Lexer_isDigit (Nat.le_of_ble_eq_true rfl) (Nat.le_of_ble_eq_true rfl) (Nat.le_refl 0) (Nat.le_refl 0)) (k4 1 rfl rfl) t_Lexer_isDigit rfl (Nat.le_of_ble_eq_true rfl) ?_
      have s_30 : Sa H H101 := (s_29).tr (m_Lexer_isDigit z99)
      refine ab_if_eq (tgt := 56) d_Lexer_behindNumber_23 (by decide) (fun q102 => ?_) (fun q102 => ?_)
      · rw [if_pos q102] at hG
        exact kB_Lexer_behindNumber_56 hG
      · rw [if_neg q102] at hG
        refine ab_lload_n d_Lexer_behindNumber_26 rfl rfl ?_
        refine ab_ldc2 d_Lexer_behindNumber_27 (k4 16 rfl rfl) ?_
        refine ab_lmul d_Lexer_behindNumber_30 ?_
        refine ab_aload_n d_Lexer_behindNumber_31 rfl rfl rfl ?_
        refine ab_iload d_Lexer_behindNumber_32 rfl ?_
        obtain ⟨v104, H105, z103, hF⟩ := bC_s hG; clear hG
        refine hp_callV_a (v := .int v104) (H1 := H105) (As := [.int l4]) (rest := [.long (l2 * (10 : Int64))]) d_Lexer_behindNumber_34 (k_Lexer_byteAt z103) (ab_mkC s_Lexer_byteAt (Nat.le_of_ble_eq_true rfl) (Nat.le_of_ble_eq_true rfl) (Nat.le_refl 0) (Nat.le_refl 0)) (k3 226 rfl rfl) i_Lexer_byteAt v_Lexer_byteAt (by rw [(s_30).1]; exact q1) (by decide) rfl rfl (Nat.le_of_ble_eq_true rfl) ?_
        have s_31 : Sa H H105 := (s_30).tr (m_Lexer_byteAt z103)
        refine ab_i2l d_Lexer_behindNumber_37 ?_
        refine ab_ladd d_Lexer_behindNumber_38 ?_
        refine ab_ldc2 d_Lexer_behindNumber_39 (k4 17 rfl rfl) ?_
        refine ab_lsub d_Lexer_behindNumber_42 ?_
        refine ab_topl (fun x106 ex106 => ?_)
        replace hF := bnd_s ex106 hF
        refine ab_ldc2 d_Lexer_behindNumber_43 (k4 18 rfl rfl) ?_
        obtain ⟨v108, H109, z107, hG⟩ := bC_s hF; clear hF
        refine hp_callS_a (v := .long v108) (H1 := H109) (As := [.long x106, .long 1099511627776]) (rest := []) d_Lexer_behindNumber_46 (k_Math_min2 z107) (ab_mkC s_Math_min2 (Nat.le_of_ble_eq_true rfl) (Nat.le_of_ble_eq_true rfl) (Nat.le_refl 0) (Nat.le_refl 0)) (k4 19 rfl rfl) t_Math_min2 rfl (Nat.le_of_ble_eq_true rfl) ?_
        have s_32 : Sa H H109 := (s_31).tr (m_Math_min2 z107)
        refine ab_lstore_n (lv' := [some (.ref p0), some (.int p1), some (.long v108), none, some (.int l4), none, none, none, none, none, none, none, none]) d_Lexer_behindNumber_49 rfl (by decide) rfl ?_
        refine ab_iinc (v := l4 + 1) (lv' := [some (.ref p0), some (.int p1), some (.long v108), none, some (.int (l4 + 1)), none, none, none, none, none, none, none, none]) d_Lexer_behindNumber_50 rfl rfl (by decide) rfl ?_
        refine ab_goto (tgt := 5) d_Lexer_behindNumber_53 (by decide) ?_
        exact ih v108 (l4 + 1) H109 r hG
def F_Lexer_behindNumber (N : Nat) (p0 : Nat) (p1 : Int32) (H : Hp) : Option (Int32 × Hp) :=
    B_Lexer_behindNumber_5 N p0 p1 N 0 p1 H
set_option maxRecDepth 20000 in
set_option maxHeartbeats 2000000 in
theorem m_Lexer_behindNumber {N : Nat} {p0 : Nat} {p1 : Int32} {H : Hp} {r : Int32 × Hp} (hF : F_Lexer_behindNumber N p0 p1 H = some r) : Sa H r.2 := by
  unfold F_Lexer_behindNumber at hF
  have hm := Sa.rf H
  exact hm.tr (mB_Lexer_behindNumber_5 N 0 p1 H r hF)
set_option maxRecDepth 20000 in
set_option maxHeartbeats 2000000 in
theorem k_Lexer_behindNumber {N : Nat} {p0 : Nat} {p1 : Int32} {H : Hp} {r : Int32 × Hp} (hF : F_Lexer_behindNumber N p0 p1 H = some r) : ab_M y_Lexer_behindNumber { frames := 1, cells := 0, slots := 0, locals := 24 } [.ref p0, .int p1] (hpw H) (po (.returned (some (.int r.1))) r.2) := by
  unfold F_Lexer_behindNumber at hF
  refine ab_of2 (lv := [some (.ref p0), some (.int p1), none, none, none, none, none, none, none, none, none, none, none]) 11 rfl rfl (Nat.le_of_ble_eq_true rfl) ?_
  refine ab_lconst (v := 0) d_Lexer_behindNumber_0 (by decide) ?_
  refine ab_lstore_n (lv' := [some (.ref p0), some (.int p1), some (.long 0), none, none, none, none, none, none, none, none, none, none]) d_Lexer_behindNumber_1 rfl (by decide) rfl ?_
  refine ab_iload_n d_Lexer_behindNumber_2 rfl rfl ?_
  refine ab_istore (lv' := [some (.ref p0), some (.int p1), some (.long 0), none, some (.int p1), none, none, none, none, none, none, none, none]) d_Lexer_behindNumber_3 (by decide) rfl ?_
  exact kB_Lexer_behindNumber_5 N 0 p1 H r hF
def y_SL_canEncode : ab_Y := (⟨"java/lang/StringLatin1", "canEncode", "(I)Z"⟩, prog_26_method_4_code, 1, (some FieldType.boolean), [])
theorem d_SL_canEncode_0 : decode y_SL_canEncode.2.1 0 = .ok (.iload_n 0, 1) := by decide +kernel
theorem d_SL_canEncode_1 : decode y_SL_canEncode.2.1 1 = .ok (.ifCond .lt 14, 3) := by decide +kernel
theorem d_SL_canEncode_4 : decode y_SL_canEncode.2.1 4 = .ok (.iload_n 0, 1) := by decide +kernel
theorem d_SL_canEncode_5 : decode y_SL_canEncode.2.1 5 = .ok (.sipush 255, 3) := by decide +kernel
theorem d_SL_canEncode_8 : decode y_SL_canEncode.2.1 8 = .ok (.if_icmp .gt 7, 3) := by decide +kernel
theorem d_SL_canEncode_11 : decode y_SL_canEncode.2.1 11 = .ok (.iconst 1, 1) := by decide +kernel
theorem d_SL_canEncode_12 : decode y_SL_canEncode.2.1 12 = .ok (.goto 4, 3) := by decide +kernel
theorem d_SL_canEncode_15 : decode y_SL_canEncode.2.1 15 = .ok (.iconst 0, 1) := by decide +kernel
theorem d_SL_canEncode_16 : decode y_SL_canEncode.2.1 16 = .ok (.ireturn, 1) := by decide +kernel
theorem s_SL_canEncode : ab_Stat y_SL_canEncode 1 := ⟨(k4 48 rfl rfl), (k1 4 rfl rfl), ⟨by decide, by decide⟩, by decide +kernel⟩
theorem t_SL_canEncode : Cond.static y_SL_canEncode.1 ∈ ab_T := (k4 47 rfl rfl)
def F_SL_canEncode (N : Nat) (p0 : Int32) (H : Hp) : Option (Int32 × Hp) :=
    if p0 < (0 : Int32) then
    some (0, H)
    else
    if (255 : Int32) < p0 then
    some (0, H)
    else
    some (1, H)
set_option maxRecDepth 20000 in
set_option maxHeartbeats 2000000 in
theorem m_SL_canEncode {N : Nat} {p0 : Int32} {H : Hp} {r : Int32 × Hp} (hF : F_SL_canEncode N p0 H = some r) : Sa H r.2 := by
  unfold F_SL_canEncode at hF
  have hm := Sa.rf H
  rcases ite_s hF with ⟨q_1, hG⟩ | ⟨q_1, hG⟩
  · clear hF
    have hr := Option.some.inj hG; subst hr
    exact hm
  · clear hF
    rcases ite_s hG with ⟨q_2, hF⟩ | ⟨q_2, hF⟩
    · clear hG
      have hr := Option.some.inj hF; subst hr
      exact hm
    · clear hG
      have hr := Option.some.inj hF; subst hr
      exact hm
set_option maxRecDepth 20000 in
set_option maxHeartbeats 2000000 in
theorem k_SL_canEncode {N : Nat} {p0 : Int32} {H : Hp} {r : Int32 × Hp} (hF : F_SL_canEncode N p0 H = some r) : ab_M y_SL_canEncode { frames := 0, cells := 0, slots := 0, locals := 0 } [.int p0] (hpw H) (po (.returned (some (.int r.1))) r.2) := by
  unfold F_SL_canEncode at hF
  refine ab_of2 (lv := [some (.int p0)]) 0 rfl (by decide +kernel) (Nat.le_of_ble_eq_true rfl) ?_
  refine ab_iload_n d_SL_canEncode_0 rfl rfl ?_
  refine ab_if_lt (tgt := 15) d_SL_canEncode_1 (by decide) (fun q1 => ?_) (fun q1 => ?_)
  · rw [if_pos q1] at hF
    refine ab_iconst (v := 0) d_SL_canEncode_15 (by decide) ?_
    exact ab_zret d_SL_canEncode_16 rfl rfl (Nat.le_refl _) (Nat.le_refl _) (by have hr := Option.some.inj hF; subst hr; exact ⟨rfl, rfl⟩)
  · rw [if_neg q1] at hF
    refine ab_iload_n d_SL_canEncode_4 rfl rfl ?_
    refine ab_sipush (v := 255) d_SL_canEncode_5 (by decide) ?_
    refine ab_icmp_gt (tgt := 15) d_SL_canEncode_8 (by decide) (fun q2 => ?_) (fun q2 => ?_)
    · rw [if_pos q2] at hF
      refine ab_iconst (v := 0) d_SL_canEncode_15 (by decide) ?_
      exact ab_zret d_SL_canEncode_16 rfl rfl (Nat.le_refl _) (Nat.le_refl _) (by have hr := Option.some.inj hF; subst hr; exact ⟨rfl, rfl⟩)
    · rw [if_neg q2] at hF
      refine ab_iconst (v := 1) d_SL_canEncode_11 (by decide) ?_
      refine ab_goto (tgt := 16) d_SL_canEncode_12 (by decide) ?_
      exact ab_zret d_SL_canEncode_16 rfl rfl (Nat.le_refl _) (Nat.le_refl _) (by have hr := Option.some.inj hF; subst hr; exact ⟨rfl, rfl⟩)
def y_SL_indexOfChar : ab_Y := (⟨"java/lang/StringLatin1", "indexOfChar", "([BIII)I"⟩, prog_26_method_23_code, 6, (some FieldType.int), [])
theorem d_SL_indexOfChar_0 : decode y_SL_indexOfChar.2.1 0 = .ok (.iload_n 1, 1) := by decide +kernel
theorem d_SL_indexOfChar_1 : decode y_SL_indexOfChar.2.1 1 = .ok (.i2b, 1) := by decide +kernel
theorem d_SL_indexOfChar_2 : decode y_SL_indexOfChar.2.1 2 = .ok (.istore 4, 2) := by decide +kernel
theorem d_SL_indexOfChar_4 : decode y_SL_indexOfChar.2.1 4 = .ok (.iload_n 2, 1) := by decide +kernel
theorem d_SL_indexOfChar_5 : decode y_SL_indexOfChar.2.1 5 = .ok (.istore 5, 2) := by decide +kernel
theorem d_SL_indexOfChar_7 : decode y_SL_indexOfChar.2.1 7 = .ok (.iload 5, 2) := by decide +kernel
theorem d_SL_indexOfChar_9 : decode y_SL_indexOfChar.2.1 9 = .ok (.iload_n 3, 1) := by decide +kernel
theorem d_SL_indexOfChar_10 : decode y_SL_indexOfChar.2.1 10 = .ok (.if_icmp .ge 21, 3) := by decide +kernel
theorem d_SL_indexOfChar_13 : decode y_SL_indexOfChar.2.1 13 = .ok (.aload_n 0, 1) := by decide +kernel
theorem d_SL_indexOfChar_14 : decode y_SL_indexOfChar.2.1 14 = .ok (.iload 5, 2) := by decide +kernel
theorem d_SL_indexOfChar_16 : decode y_SL_indexOfChar.2.1 16 = .ok (.baload, 1) := by decide +kernel
theorem d_SL_indexOfChar_17 : decode y_SL_indexOfChar.2.1 17 = .ok (.iload 4, 2) := by decide +kernel
theorem d_SL_indexOfChar_19 : decode y_SL_indexOfChar.2.1 19 = .ok (.if_icmp .ne 6, 3) := by decide +kernel
theorem d_SL_indexOfChar_22 : decode y_SL_indexOfChar.2.1 22 = .ok (.iload 5, 2) := by decide +kernel
theorem d_SL_indexOfChar_24 : decode y_SL_indexOfChar.2.1 24 = .ok (.ireturn, 1) := by decide +kernel
theorem d_SL_indexOfChar_25 : decode y_SL_indexOfChar.2.1 25 = .ok (.iinc 5 1, 3) := by decide +kernel
theorem d_SL_indexOfChar_28 : decode y_SL_indexOfChar.2.1 28 = .ok (.goto (-21), 3) := by decide +kernel
theorem d_SL_indexOfChar_31 : decode y_SL_indexOfChar.2.1 31 = .ok (.iconst (-1), 1) := by decide +kernel
theorem d_SL_indexOfChar_32 : decode y_SL_indexOfChar.2.1 32 = .ok (.ireturn, 1) := by decide +kernel
theorem s_SL_indexOfChar : ab_Stat y_SL_indexOfChar 4 := ⟨(k4 53 rfl rfl), (k1 4 rfl rfl), ⟨by decide, by decide⟩, by decide +kernel⟩
theorem t_SL_indexOfChar : Cond.static y_SL_indexOfChar.1 ∈ ab_T := (k4 52 rfl rfl)
def B_SL_indexOfChar_7 (N : Nat) (p0 : Nat) (p1 : Int32) (p2 : Int32) (p3 : Int32) : Nat → Int32 → Int32 → Hp → Option (Int32 × Hp)
  | 0, _, _, _ => none
  | n + 1, l4, l5, H =>
    if p3 ≤ l5 then
    some ((-1), H)
    else
    ar H 101 p0 fun n3 =>
    ck (inb l5 n3) <|
    bnd ((H.D p0 (l5).toNatClampNeg)) fun x6 =>
    if x6 = l4 then
    some (l5, H)
    else
    B_SL_indexOfChar_7 N p0 p1 p2 p3 n l4 (l5 + 1) H
termination_by structural n => n
set_option maxRecDepth 20000 in
set_option maxHeartbeats 2000000 in
theorem mB_SL_indexOfChar_7 {N : Nat} {p0 : Nat} {p1 : Int32} {p2 : Int32} {p3 : Int32} : ∀ (n : Nat) (l4 : Int32) (l5 : Int32) (H : Hp) (r : Int32 × Hp), B_SL_indexOfChar_7 N p0 p1 p2 p3 n l4 l5 H = some r → Sa H r.2 := by
  intro n
  induction n with
  | zero => intro l4 l5 H r hF; rw [B_SL_indexOfChar_7] at hF; cases hF
  | succ n ih =>
    intro l4 l5 H r hF
    rw [B_SL_indexOfChar_7] at hF
    have hm := Sa.rf H
    rcases ite_s hF with ⟨q_1, hG⟩ | ⟨q_1, hG⟩
    · clear hF
      have hr := Option.some.inj hG; subst hr
      exact hm
    · clear hF
      obtain ⟨n9, q10, hF⟩ := ar_s hG; clear hG
      obtain ⟨q11, hG⟩ := ck_s hF; clear hF
      obtain ⟨x12, -, hF⟩ := bnd_g hG; clear hG
      rcases ite_s hF with ⟨q_2, hG⟩ | ⟨q_2, hG⟩
      · clear hF
        have hr := Option.some.inj hG; subst hr
        exact hm
      · clear hF
        exact hm.tr (ih l4 (l5 + 1) H r hG)
set_option maxRecDepth 20000 in
set_option maxHeartbeats 2000000 in
theorem kB_SL_indexOfChar_7 {N : Nat} {p0 : Nat} {p1 : Int32} {p2 : Int32} {p3 : Int32} : ∀ (n : Nat) (l4 : Int32) (l5 : Int32) (H : Hp) (r : Int32 × Hp), B_SL_indexOfChar_7 N p0 p1 p2 p3 n l4 l5 H = some r → ab_V y_SL_indexOfChar { frames := 0, cells := 0, slots := 0, locals := 0 } (po (.returned (some (.int r.1))) r.2) 0 0 0 0 7 [some (.ref p0), some (.int p1), some (.int p2), some (.int p3), some (.int l4), some (.int l5)] [] (hpw H) := by
  intro n
  induction n with
  | zero => intro l4 l5 H r hF; rw [B_SL_indexOfChar_7] at hF; cases hF
  | succ n ih =>
    intro l4 l5 H r hF
    rw [B_SL_indexOfChar_7] at hF
    refine ab_iload d_SL_indexOfChar_7 rfl ?_
    refine ab_iload_n d_SL_indexOfChar_9 rfl rfl ?_
    refine ab_icmp_ge (tgt := 31) d_SL_indexOfChar_10 (by decide) (fun q2 => ?_) (fun q2 => ?_)
    · rw [if_pos q2] at hF
      refine ab_iconst (v := (-1)) d_SL_indexOfChar_31 (by decide) ?_
      exact ab_iret d_SL_indexOfChar_32 rfl (Nat.le_refl _) (Nat.le_refl _) (by have hr := Option.some.inj hF; subst hr; exact ⟨rfl, rfl⟩)
    · rw [if_neg q2] at hF
      refine ab_aload_n d_SL_indexOfChar_13 rfl rfl rfl ?_
      refine ab_iload d_SL_indexOfChar_14 rfl ?_
      obtain ⟨n3, q4, hG⟩ := ar_s hF; clear hF
      obtain ⟨q5, hF⟩ := ck_s hG; clear hG
      refine hp_bald d_SL_indexOfChar_16 tB q4 q5 ?_
      refine ab_topi (fun x6 ex6 => ?_)
      replace hF := bnd_s ex6 hF
      refine ab_iload d_SL_indexOfChar_17 rfl ?_
      refine ab_icmp_ne (tgt := 25) d_SL_indexOfChar_19 (by decide) (fun q7 => ?_) (fun q7 => ?_)
      · rw [if_neg q7] at hF
        refine ab_iinc (v := l5 + 1) (lv' := [some (.ref p0), some (.int p1), some (.int p2), some (.int p3), some (.int l4), some (.int (l5 + 1))]) d_SL_indexOfChar_25 rfl rfl (by decide) rfl ?_
        refine ab_goto (tgt := 7) d_SL_indexOfChar_28 (by decide) ?_
        exact ih l4 (l5 + 1) H r hF
      · rw [if_pos q7] at hF
        refine ab_iload d_SL_indexOfChar_22 rfl ?_
        exact ab_iret d_SL_indexOfChar_24 rfl (Nat.le_refl _) (Nat.le_refl _) (by have hr := Option.some.inj hF; subst hr; exact ⟨rfl, rfl⟩)
def F_SL_indexOfChar (N : Nat) (p0 : Nat) (p1 : Int32) (p2 : Int32) (p3 : Int32) (H : Hp) : Option (Int32 × Hp) :=
    bnd (((p1 : Int32).toInt8.toInt32)) fun x1 =>
    B_SL_indexOfChar_7 N p0 p1 p2 p3 N x1 p2 H
set_option maxRecDepth 20000 in
set_option maxHeartbeats 2000000 in
theorem m_SL_indexOfChar {N : Nat} {p0 : Nat} {p1 : Int32} {p2 : Int32} {p3 : Int32} {H : Hp} {r : Int32 × Hp} (hF : F_SL_indexOfChar N p0 p1 p2 p3 H = some r) : Sa H r.2 := by
  unfold F_SL_indexOfChar at hF
  have hm := Sa.rf H
  obtain ⟨x14, -, hG⟩ := bnd_g hF; clear hF
  exact hm.tr (mB_SL_indexOfChar_7 N x14 p2 H r hG)
set_option maxRecDepth 20000 in
set_option maxHeartbeats 2000000 in
theorem k_SL_indexOfChar {N : Nat} {p0 : Nat} {p1 : Int32} {p2 : Int32} {p3 : Int32} {H : Hp} {r : Int32 × Hp} (hF : F_SL_indexOfChar N p0 p1 p2 p3 H = some r) : ab_M y_SL_indexOfChar { frames := 0, cells := 0, slots := 0, locals := 0 } [.ref p0, .int p1, .int p2, .int p3] (hpw H) (po (.returned (some (.int r.1))) r.2) := by
  unfold F_SL_indexOfChar at hF
  refine ab_of2 (lv := [some (.ref p0), some (.int p1), some (.int p2), some (.int p3), none, none]) 2 rfl (by decide +kernel) (Nat.le_of_ble_eq_true rfl) ?_
  refine ab_iload_n d_SL_indexOfChar_0 rfl rfl ?_
  refine ab_i2b d_SL_indexOfChar_1 ?_
  refine ab_topi (fun x1 ex1 => ?_)
  replace hF := bnd_s ex1 hF
  refine ab_istore (lv' := [some (.ref p0), some (.int p1), some (.int p2), some (.int p3), some (.int x1), none]) d_SL_indexOfChar_2 (by decide) rfl ?_
  refine ab_iload_n d_SL_indexOfChar_4 rfl rfl ?_
  refine ab_istore (lv' := [some (.ref p0), some (.int p1), some (.int p2), some (.int p3), some (.int x1), some (.int p2)]) d_SL_indexOfChar_5 (by decide) rfl ?_
  exact kB_SL_indexOfChar_7 N x1 p2 H r hF
def y_SL_indexOf : ab_Y := (⟨"java/lang/StringLatin1", "indexOf", "([BIII)I"⟩, prog_26_method_22_code, 4, (some FieldType.int), [])
theorem d_SL_indexOf_0 : decode y_SL_indexOf.2.1 0 = .ok (.iload_n 1, 1) := by decide +kernel
theorem d_SL_indexOf_1 : decode y_SL_indexOf.2.1 1 = .ok (.invokestatic 88, 3) := by decide +kernel
theorem d_SL_indexOf_4 : decode y_SL_indexOf.2.1 4 = .ok (.ifCond .ne 5, 3) := by decide +kernel
theorem d_SL_indexOf_7 : decode y_SL_indexOf.2.1 7 = .ok (.iconst (-1), 1) := by decide +kernel
theorem d_SL_indexOf_8 : decode y_SL_indexOf.2.1 8 = .ok (.ireturn, 1) := by decide +kernel
theorem d_SL_indexOf_9 : decode y_SL_indexOf.2.1 9 = .ok (.iload_n 2, 1) := by decide +kernel
theorem d_SL_indexOf_10 : decode y_SL_indexOf.2.1 10 = .ok (.iconst 0, 1) := by decide +kernel
theorem d_SL_indexOf_11 : decode y_SL_indexOf.2.1 11 = .ok (.invokestatic 92, 3) := by decide +kernel
theorem d_SL_indexOf_14 : decode y_SL_indexOf.2.1 14 = .ok (.istore_n 2, 1) := by decide +kernel
theorem d_SL_indexOf_15 : decode y_SL_indexOf.2.1 15 = .ok (.iload_n 3, 1) := by decide +kernel
theorem d_SL_indexOf_16 : decode y_SL_indexOf.2.1 16 = .ok (.aload_n 0, 1) := by decide +kernel
theorem d_SL_indexOf_17 : decode y_SL_indexOf.2.1 17 = .ok (.arraylength, 1) := by decide +kernel
theorem d_SL_indexOf_18 : decode y_SL_indexOf.2.1 18 = .ok (.invokestatic 38, 3) := by decide +kernel
theorem d_SL_indexOf_21 : decode y_SL_indexOf.2.1 21 = .ok (.istore_n 3, 1) := by decide +kernel
theorem d_SL_indexOf_22 : decode y_SL_indexOf.2.1 22 = .ok (.iload_n 2, 1) := by decide +kernel
theorem d_SL_indexOf_23 : decode y_SL_indexOf.2.1 23 = .ok (.iload_n 3, 1) := by decide +kernel
theorem d_SL_indexOf_24 : decode y_SL_indexOf.2.1 24 = .ok (.if_icmp .lt 5, 3) := by decide +kernel
theorem d_SL_indexOf_27 : decode y_SL_indexOf.2.1 27 = .ok (.iconst (-1), 1) := by decide +kernel
theorem d_SL_indexOf_28 : decode y_SL_indexOf.2.1 28 = .ok (.ireturn, 1) := by decide +kernel
theorem d_SL_indexOf_29 : decode y_SL_indexOf.2.1 29 = .ok (.aload_n 0, 1) := by decide +kernel
theorem d_SL_indexOf_30 : decode y_SL_indexOf.2.1 30 = .ok (.iload_n 1, 1) := by decide +kernel
theorem d_SL_indexOf_31 : decode y_SL_indexOf.2.1 31 = .ok (.iload_n 2, 1) := by decide +kernel
theorem d_SL_indexOf_32 : decode y_SL_indexOf.2.1 32 = .ok (.iload_n 3, 1) := by decide +kernel
theorem d_SL_indexOf_33 : decode y_SL_indexOf.2.1 33 = .ok (.invokestatic 95, 3) := by decide +kernel
theorem d_SL_indexOf_36 : decode y_SL_indexOf.2.1 36 = .ok (.ireturn, 1) := by decide +kernel
theorem s_SL_indexOf : ab_Stat y_SL_indexOf 4 := ⟨(k4 45 rfl rfl), (k1 4 rfl rfl), ⟨by decide, by decide⟩, by decide +kernel⟩
theorem t_SL_indexOf : Cond.static y_SL_indexOf.1 ∈ ab_T := (k4 44 rfl rfl)
def F_SL_indexOf (N : Nat) (p0 : Nat) (p1 : Int32) (l2 : Int32) (l3 : Int32) (H : Hp) : Option (Int32 × Hp) :=
    bC (F_SL_canEncode N p1 H) fun v2 H3 =>
    if v2 = (0 : Int32) then
    some ((-1), H3)
    else
    bC (F_Math_max N l2 (0 : Int32) H3) fun v6 H7 =>
    ar H7 101 p0 fun n8 =>
    bC (F_Math_min N l3 (Int32.ofNat n8) H7) fun v11 H12 =>
    if v6 < v11 then
    bC (F_SL_indexOfChar N p0 p1 v6 v11 H12) fun v15 H16 =>
    some (v15, H16)
    else
    some ((-1), H12)
set_option maxRecDepth 20000 in
set_option maxHeartbeats 2000000 in
theorem m_SL_indexOf {N : Nat} {p0 : Nat} {p1 : Int32} {l2 : Int32} {l3 : Int32} {H : Hp} {r : Int32 × Hp} (hF : F_SL_indexOf N p0 p1 l2 l3 H = some r) : Sa H r.2 := by
  unfold F_SL_indexOf at hF
  have hm := Sa.rf H
  obtain ⟨v18, H19, z17, hG⟩ := bC_s hF; clear hF
  replace hm : Sa H H19 := hm.tr (m_SL_canEncode z17)
  rcases ite_s hG with ⟨q_6, hF⟩ | ⟨q_6, hF⟩
  · clear hG
    have hr := Option.some.inj hF; subst hr
    exact hm
  · clear hG
    obtain ⟨v22, H23, z21, hG⟩ := bC_s hF; clear hF
    replace hm : Sa H H23 := hm.tr (m_Math_max z21)
    obtain ⟨n24, q25, hF⟩ := ar_s hG; clear hG
    obtain ⟨v27, H28, z26, hG⟩ := bC_s hF; clear hF
    replace hm : Sa H H28 := hm.tr (m_Math_min z26)
    rcases ite_s hG with ⟨q_9, hF⟩ | ⟨q_9, hF⟩
    · clear hG
      obtain ⟨v31, H32, z30, hG⟩ := bC_s hF; clear hF
      replace hm : Sa H H32 := hm.tr (m_SL_indexOfChar z30)
      have hr := Option.some.inj hG; subst hr
      exact hm
    · clear hG
      have hr := Option.some.inj hF; subst hr
      exact hm
set_option maxRecDepth 20000 in
set_option maxHeartbeats 2000000 in
theorem k_SL_indexOf {N : Nat} {p0 : Nat} {p1 : Int32} {l2 : Int32} {l3 : Int32} {H : Hp} {r : Int32 × Hp} (hF : F_SL_indexOf N p0 p1 l2 l3 H = some r) : ab_M y_SL_indexOf { frames := 1, cells := 0, slots := 0, locals := 25 } [.ref p0, .int p1, .int l2, .int l3] (hpw H) (po (.returned (some (.int r.1))) r.2) := by
  unfold F_SL_indexOf at hF
  refine ab_of2 (lv := [some (.ref p0), some (.int p1), some (.int l2), some (.int l3)]) 0 rfl (by decide +kernel) (Nat.le_of_ble_eq_true rfl) ?_
  refine ab_iload_n d_SL_indexOf_0 rfl rfl ?_
  obtain ⟨v2, H3, z1, hG⟩ := bC_s hF; clear hF
  refine hp_callS_a (v := .int v2) (H1 := H3) (As := [.int p1]) (rest := []) d_SL_indexOf_1 (k_SL_canEncode z1) (ab_mkC s_SL_canEncode (Nat.le_of_ble_eq_true rfl) (Nat.le_of_ble_eq_true rfl) (Nat.le_refl 0) (Nat.le_refl 0)) (k4 46 rfl rfl) t_SL_canEncode rfl (Nat.le_of_ble_eq_true rfl) ?_
  have s_1 : Sa H H3 := (m_SL_canEncode z1)
  refine ab_if_ne (tgt := 9) d_SL_indexOf_4 (by decide) (fun q4 => ?_) (fun q4 => ?_)
  · rw [if_neg q4] at hG
    refine ab_iload_n d_SL_indexOf_9 rfl rfl ?_
    refine ab_iconst (v := 0) d_SL_indexOf_10 (by decide) ?_
    obtain ⟨v6, H7, z5, hF⟩ := bC_s hG; clear hG
    refine hp_callS_a (v := .int v6) (H1 := H7) (As := [.int l2, .int 0]) (rest := []) d_SL_indexOf_11 (k_Math_max z5) (ab_mkC s_Math_max (Nat.le_of_ble_eq_true rfl) (Nat.le_of_ble_eq_true rfl) (Nat.le_refl 0) (Nat.le_refl 0)) (k4 49 rfl rfl) t_Math_max rfl (Nat.le_of_ble_eq_true rfl) ?_
    have s_2 : Sa H H7 := (s_1).tr (m_Math_max z5)
    refine ab_istore_n (lv' := [some (.ref p0), some (.int p1), some (.int v6), some (.int l3)]) d_SL_indexOf_14 rfl (by decide) rfl ?_
    refine ab_iload_n d_SL_indexOf_15 rfl rfl ?_
    refine ab_aload_n d_SL_indexOf_16 rfl rfl rfl ?_
    obtain ⟨n8, q9, hG⟩ := ar_s hF; clear hF
    rw [(s_2).1] at q9
    refine hp_alen (q := 101) d_SL_indexOf_17 (by rw [(s_2).1]; exact q9) (Or.inl ⟨by decide, by decide, rfl⟩) tB ?_
    obtain ⟨v11, H12, z10, hF⟩ := bC_s hG; clear hG
    refine hp_callS_a (v := .int v11) (H1 := H12) (As := [.int l3, .int (Int32.ofNat n8)]) (rest := []) d_SL_indexOf_18 (k_Math_min z10) (ab_mkC s_Math_min (Nat.le_of_ble_eq_true rfl) (Nat.le_of_ble_eq_true rfl) (Nat.le_refl 0) (Nat.le_refl 0)) (k4 50 rfl rfl) t_Math_min rfl (Nat.le_of_ble_eq_true rfl) ?_
    have s_3 : Sa H H12 := (s_2).tr (m_Math_min z10)
    refine ab_istore_n (lv' := [some (.ref p0), some (.int p1), some (.int v6), some (.int v11)]) d_SL_indexOf_21 rfl (by decide) rfl ?_
    refine ab_iload_n d_SL_indexOf_22 rfl rfl ?_
    refine ab_iload_n d_SL_indexOf_23 rfl rfl ?_
    refine ab_icmp_lt (tgt := 29) d_SL_indexOf_24 (by decide) (fun q13 => ?_) (fun q13 => ?_)
    · rw [if_pos q13] at hF
      refine ab_aload_n d_SL_indexOf_29 rfl rfl rfl ?_
      refine ab_iload_n d_SL_indexOf_30 rfl rfl ?_
      refine ab_iload_n d_SL_indexOf_31 rfl rfl ?_
      refine ab_iload_n d_SL_indexOf_32 rfl rfl ?_
      obtain ⟨v15, H16, z14, hG⟩ := bC_s hF; clear hF
      refine hp_callS_a (v := .int v15) (H1 := H16) (As := [.ref p0, .int p1, .int v6, .int v11]) (rest := []) d_SL_indexOf_33 (k_SL_indexOfChar z14) (ab_mkC s_SL_indexOfChar (Nat.le_of_ble_eq_true rfl) (Nat.le_of_ble_eq_true rfl) (Nat.le_refl 0) (Nat.le_refl 0)) (k4 51 rfl rfl) t_SL_indexOfChar rfl (Nat.le_of_ble_eq_true rfl) ?_
      have s_4 : Sa H H16 := (s_3).tr (m_SL_indexOfChar z14)
      exact ab_iret d_SL_indexOf_36 rfl (Nat.le_refl _) (Nat.le_refl _) (by have hr := Option.some.inj hG; subst hr; exact ⟨rfl, rfl⟩)
    · rw [if_neg q13] at hF
      refine ab_iconst (v := (-1)) d_SL_indexOf_27 (by decide) ?_
      exact ab_iret d_SL_indexOf_28 rfl (Nat.le_refl _) (Nat.le_refl _) (by have hr := Option.some.inj hF; subst hr; exact ⟨rfl, rfl⟩)
  · rw [if_pos q4] at hG
    refine ab_iconst (v := (-1)) d_SL_indexOf_7 (by decide) ?_
    exact ab_iret d_SL_indexOf_8 rfl (Nat.le_refl _) (Nat.le_refl _) (by have hr := Option.some.inj hG; subst hr; exact ⟨rfl, rfl⟩)
def y_Str_indexOf2 : ab_Y := (⟨"java/lang/String", "indexOf", "(II)I"⟩, prog_25_method_80_code, 3, (some FieldType.int), [])
theorem d_Str_indexOf2_0 : decode y_Str_indexOf2.2.1 0 = .ok (.aload_n 0, 1) := by decide +kernel
theorem d_Str_indexOf2_1 : decode y_Str_indexOf2.2.1 1 = .ok (.invokevirtual 492, 3) := by decide +kernel
theorem d_Str_indexOf2_4 : decode y_Str_indexOf2.2.1 4 = .ok (.ifCond .eq 19, 3) := by decide +kernel
theorem d_Str_indexOf2_7 : decode y_Str_indexOf2.2.1 7 = .ok (.aload_n 0, 1) := by decide +kernel
theorem d_Str_indexOf2_8 : decode y_Str_indexOf2.2.1 8 = .ok (.getfield 9, 3) := by decide +kernel
theorem d_Str_indexOf2_11 : decode y_Str_indexOf2.2.1 11 = .ok (.iload_n 1, 1) := by decide +kernel
theorem d_Str_indexOf2_12 : decode y_Str_indexOf2.2.1 12 = .ok (.iload_n 2, 1) := by decide +kernel
theorem d_Str_indexOf2_13 : decode y_Str_indexOf2.2.1 13 = .ok (.aload_n 0, 1) := by decide +kernel
theorem d_Str_indexOf2_14 : decode y_Str_indexOf2.2.1 14 = .ok (.invokevirtual 505, 3) := by decide +kernel
theorem d_Str_indexOf2_17 : decode y_Str_indexOf2.2.1 17 = .ok (.invokestatic 637, 3) := by decide +kernel
theorem d_Str_indexOf2_20 : decode y_Str_indexOf2.2.1 20 = .ok (.goto 16, 3) := by decide +kernel
theorem d_Str_indexOf2_23 : decode y_Str_indexOf2.2.1 23 = .ok (.aload_n 0, 1) := by decide +kernel
theorem d_Str_indexOf2_24 : decode y_Str_indexOf2.2.1 24 = .ok (.getfield 9, 3) := by decide +kernel
theorem d_Str_indexOf2_27 : decode y_Str_indexOf2.2.1 27 = .ok (.iload_n 1, 1) := by decide +kernel
theorem d_Str_indexOf2_28 : decode y_Str_indexOf2.2.1 28 = .ok (.iload_n 2, 1) := by decide +kernel
theorem d_Str_indexOf2_29 : decode y_Str_indexOf2.2.1 29 = .ok (.aload_n 0, 1) := by decide +kernel
theorem d_Str_indexOf2_30 : decode y_Str_indexOf2.2.1 30 = .ok (.invokevirtual 505, 3) := by decide +kernel
theorem d_Str_indexOf2_33 : decode y_Str_indexOf2.2.1 33 = .ok (.invokestatic 640, 3) := by decide +kernel
theorem d_Str_indexOf2_36 : decode y_Str_indexOf2.2.1 36 = .ok (.ireturn, 1) := by decide +kernel
theorem s_Str_indexOf2 : ab_Stat y_Str_indexOf2 2 := ⟨(k4 41 rfl rfl), (k1 3 rfl rfl), ⟨by decide, by decide⟩, by decide +kernel⟩
theorem i_Str_indexOf2 : Cond.instanceMethod y_Str_indexOf2.1 ∈ ab_T := (k4 39 rfl rfl)
theorem v_Str_indexOf2 : Cond.selects "java/lang/String" y_Str_indexOf2.1 y_Str_indexOf2.1 ∈ ab_T := (k4 40 rfl rfl)
def F_Str_indexOf2 (N : Nat) (p0 : Nat) (p1 : Int32) (p2 : Int32) (H : Hp) : Option (Int32 × Hp) :=
    ck (H.sh[p0]? = some (16, 0)) <|
    bC (F_Str_isLatin1 N p0 H) fun v3 H4 =>
    if v3 = (0 : Int32) then
    rf (H4.P p0 0) fun a6 =>
    bC (F_Str_length N p0 H4) fun v9 H10 =>
    none
    else
    rf (H4.P p0 0) fun a11 =>
    bC (F_Str_length N p0 H4) fun v14 H15 =>
    bC (F_SL_indexOf N a11 p1 p2 v14 H15) fun v17 H18 =>
    some (v17, H18)
set_option maxRecDepth 20000 in
set_option maxHeartbeats 2000000 in
theorem m_Str_indexOf2 {N : Nat} {p0 : Nat} {p1 : Int32} {p2 : Int32} {H : Hp} {r : Int32 × Hp} (hF : F_Str_indexOf2 N p0 p1 p2 H = some r) : Sa H r.2 := by
  unfold F_Str_indexOf2 at hF
  have hm := Sa.rf H
  obtain ⟨q19, hG⟩ := ck_s hF; clear hF
  obtain ⟨v21, H22, z20, hF⟩ := bC_s hG; clear hG
  replace hm : Sa H H22 := hm.tr (m_Str_isLatin1 z20)
  rcases ite_s hF with ⟨q_6, hG⟩ | ⟨q_6, hG⟩
  · clear hF
    obtain ⟨a24, e25, hF⟩ := rf_s hG; clear hG
    obtain ⟨v27, H28, z26, hG⟩ := bC_s hF; clear hF
    replace hm : Sa H H28 := hm.tr (m_Str_length z26)
    cases hG
  · clear hF
    obtain ⟨a29, e30, hF⟩ := rf_s hG; clear hG
    obtain ⟨v32, H33, z31, hG⟩ := bC_s hF; clear hF
    replace hm : Sa H H33 := hm.tr (m_Str_length z31)
    obtain ⟨v35, H36, z34, hF⟩ := bC_s hG; clear hG
    replace hm : Sa H H36 := hm.tr (m_SL_indexOf z34)
    have hr := Option.some.inj hF; subst hr
    exact hm
set_option maxRecDepth 20000 in
set_option maxHeartbeats 2000000 in
theorem k_Str_indexOf2 {N : Nat} {p0 : Nat} {p1 : Int32} {p2 : Int32} {H : Hp} {r : Int32 × Hp} (hF : F_Str_indexOf2 N p0 p1 p2 H = some r) : ab_M y_Str_indexOf2 { frames := 2, cells := 0, slots := 0, locals := 48 } [.ref p0, .int p1, .int p2] (hpw H) (po (.returned (some (.int r.1))) r.2) := by
  unfold F_Str_indexOf2 at hF
  refine ab_of2 (lv := [some (.ref p0), some (.int p1), some (.int p2)]) 0 rfl (by decide +kernel) (Nat.le_of_ble_eq_true rfl) ?_
  refine ab_aload_n d_Str_indexOf2_0 rfl rfl rfl ?_
  obtain ⟨q1, hG⟩ := ck_s hF; clear hF
  obtain ⟨v3, H4, z2, hF⟩ := bC_s hG; clear hG
  refine hp_callV_a (v := .int v3) (H1 := H4) (As := []) (rest := []) d_Str_indexOf2_1 (k_Str_isLatin1 z2) (ab_mkC s_Str_isLatin1 (Nat.le_of_ble_eq_true rfl) (Nat.le_of_ble_eq_true rfl) (Nat.le_refl 0) (Nat.le_refl 0)) (k1 60 rfl rfl) i_Str_isLatin1 v_Str_isLatin1 q1 (by decide) rfl rfl (Nat.le_of_ble_eq_true rfl) ?_
  have s_1 : Sa H H4 := (m_Str_isLatin1 z2)
  refine ab_if_eq (tgt := 23) d_Str_indexOf2_4 (by decide) (fun q5 => ?_) (fun q5 => ?_)
  · rw [if_pos q5] at hF
    refine ab_aload_n d_Str_indexOf2_23 rfl rfl rfl ?_
    obtain ⟨a6, e7, hG⟩ := rf_s hF; clear hF
    refine hp_getR (f := 0) d_Str_indexOf2_24 (by rw [(s_1).1]; exact q1) (by decide) rfl (by decide) (k4 227 rfl rfl) rfl e7 ?_
    refine ab_iload_n d_Str_indexOf2_27 rfl rfl ?_
    refine ab_iload_n d_Str_indexOf2_28 rfl rfl ?_
    refine ab_aload_n d_Str_indexOf2_29 rfl rfl rfl ?_
    obtain ⟨v9, H10, z8, hF⟩ := bC_s hG; clear hG
    refine hp_callV_a (v := .int v9) (H1 := H10) (As := []) (rest := [.int p2, .int p1, .ref a6]) d_Str_indexOf2_30 (k_Str_length z8) (ab_mkC s_Str_length (Nat.le_of_ble_eq_true rfl) (Nat.le_of_ble_eq_true rfl) (Nat.le_refl 0) (Nat.le_refl 0)) (k4 42 rfl rfl) i_Str_length v_Str_length (by rw [(s_1).1]; exact q1) (by decide) rfl rfl (Nat.le_of_ble_eq_true rfl) ?_
    have s_2 : Sa H H10 := (s_1).tr (m_Str_length z8)
    cases hF
  · rw [if_neg q5] at hF
    refine ab_aload_n d_Str_indexOf2_7 rfl rfl rfl ?_
    obtain ⟨a11, e12, hG⟩ := rf_s hF; clear hF
    refine hp_getR (f := 0) d_Str_indexOf2_8 (by rw [(s_1).1]; exact q1) (by decide) rfl (by decide) (k4 227 rfl rfl) rfl e12 ?_
    refine ab_iload_n d_Str_indexOf2_11 rfl rfl ?_
    refine ab_iload_n d_Str_indexOf2_12 rfl rfl ?_
    refine ab_aload_n d_Str_indexOf2_13 rfl rfl rfl ?_
    obtain ⟨v14, H15, z13, hF⟩ := bC_s hG; clear hG
    refine hp_callV_a (v := .int v14) (H1 := H15) (As := []) (rest := [.int p2, .int p1, .ref a11]) d_Str_indexOf2_14 (k_Str_length z13) (ab_mkC s_Str_length (Nat.le_of_ble_eq_true rfl) (Nat.le_of_ble_eq_true rfl) (Nat.le_refl 0) (Nat.le_refl 0)) (k4 42 rfl rfl) i_Str_length v_Str_length (by rw [(s_1).1]; exact q1) (by decide) rfl rfl (Nat.le_of_ble_eq_true rfl) ?_
    have s_3 : Sa H H15 := (s_1).tr (m_Str_length z13)
    obtain ⟨v17, H18, z16, hG⟩ := bC_s hF; clear hF
    refine hp_callS_a (v := .int v17) (H1 := H18) (As := [.ref a11, .int p1, .int p2, .int v14]) (rest := []) d_Str_indexOf2_17 (k_SL_indexOf z16) (ab_mkC s_SL_indexOf (Nat.le_of_ble_eq_true rfl) (Nat.le_of_ble_eq_true rfl) (Nat.le_refl 0) (Nat.le_refl 0)) (k4 43 rfl rfl) t_SL_indexOf rfl (Nat.le_of_ble_eq_true rfl) ?_
    have s_4 : Sa H H18 := (s_3).tr (m_SL_indexOf z16)
    refine ab_goto (tgt := 36) d_Str_indexOf2_20 (by decide) ?_
    exact ab_iret d_Str_indexOf2_36 rfl (Nat.le_refl _) (Nat.le_refl _) (by have hr := Option.some.inj hG; subst hr; exact ⟨rfl, rfl⟩)
def y_Str_indexOf : ab_Y := (⟨"java/lang/String", "indexOf", "(I)I"⟩, prog_25_method_79_code, 2, (some FieldType.int), [])
theorem d_Str_indexOf_0 : decode y_Str_indexOf.2.1 0 = .ok (.aload_n 0, 1) := by decide +kernel
theorem d_Str_indexOf_1 : decode y_Str_indexOf.2.1 1 = .ok (.iload_n 1, 1) := by decide +kernel
theorem d_Str_indexOf_2 : decode y_Str_indexOf.2.1 2 = .ok (.iconst 0, 1) := by decide +kernel
theorem d_Str_indexOf_3 : decode y_Str_indexOf.2.1 3 = .ok (.invokevirtual 633, 3) := by decide +kernel
theorem d_Str_indexOf_6 : decode y_Str_indexOf.2.1 6 = .ok (.ireturn, 1) := by decide +kernel
theorem s_Str_indexOf : ab_Stat y_Str_indexOf 1 := ⟨(k4 37 rfl rfl), (k1 3 rfl rfl), ⟨by decide, by decide⟩, by decide +kernel⟩
theorem i_Str_indexOf : Cond.instanceMethod y_Str_indexOf.1 ∈ ab_T := (k4 35 rfl rfl)
theorem v_Str_indexOf : Cond.selects "java/lang/String" y_Str_indexOf.1 y_Str_indexOf.1 ∈ ab_T := (k4 36 rfl rfl)
def F_Str_indexOf (N : Nat) (p0 : Nat) (p1 : Int32) (H : Hp) : Option (Int32 × Hp) :=
    ck (H.sh[p0]? = some (16, 0)) <|
    bC (F_Str_indexOf2 N p0 p1 (0 : Int32) H) fun v3 H4 =>
    some (v3, H4)
set_option maxRecDepth 20000 in
set_option maxHeartbeats 2000000 in
theorem m_Str_indexOf {N : Nat} {p0 : Nat} {p1 : Int32} {H : Hp} {r : Int32 × Hp} (hF : F_Str_indexOf N p0 p1 H = some r) : Sa H r.2 := by
  unfold F_Str_indexOf at hF
  have hm := Sa.rf H
  obtain ⟨q5, hG⟩ := ck_s hF; clear hF
  obtain ⟨v7, H8, z6, hF⟩ := bC_s hG; clear hG
  replace hm : Sa H H8 := hm.tr (m_Str_indexOf2 z6)
  have hr := Option.some.inj hF; subst hr
  exact hm
set_option maxRecDepth 20000 in
set_option maxHeartbeats 2000000 in
theorem k_Str_indexOf {N : Nat} {p0 : Nat} {p1 : Int32} {H : Hp} {r : Int32 × Hp} (hF : F_Str_indexOf N p0 p1 H = some r) : ab_M y_Str_indexOf { frames := 3, cells := 0, slots := 0, locals := 70 } [.ref p0, .int p1] (hpw H) (po (.returned (some (.int r.1))) r.2) := by
  unfold F_Str_indexOf at hF
  refine ab_of2 (lv := [some (.ref p0), some (.int p1)]) 0 rfl (by decide +kernel) (Nat.le_of_ble_eq_true rfl) ?_
  refine ab_aload_n d_Str_indexOf_0 rfl rfl rfl ?_
  refine ab_iload_n d_Str_indexOf_1 rfl rfl ?_
  refine ab_iconst (v := 0) d_Str_indexOf_2 (by decide) ?_
  obtain ⟨q1, hG⟩ := ck_s hF; clear hF
  obtain ⟨v3, H4, z2, hF⟩ := bC_s hG; clear hG
  refine hp_callV_a (v := .int v3) (H1 := H4) (As := [.int p1, .int 0]) (rest := []) d_Str_indexOf_3 (k_Str_indexOf2 z2) (ab_mkC s_Str_indexOf2 (Nat.le_of_ble_eq_true rfl) (Nat.le_of_ble_eq_true rfl) (Nat.le_refl 0) (Nat.le_refl 0)) (k4 38 rfl rfl) i_Str_indexOf2 v_Str_indexOf2 q1 (by decide) rfl rfl (Nat.le_of_ble_eq_true rfl) ?_
  have s_1 : Sa H H4 := (m_Str_indexOf2 z2)
  exact ab_iret d_Str_indexOf_6 rfl (Nat.le_refl _) (Nat.le_refl _) (by have hr := Option.some.inj hF; subst hr; exact ⟨rfl, rfl⟩)
