set_option maxRecDepth 20000 in
set_option maxHeartbeats 2000000 in
theorem c_MText_skips {h : List ab_E} {t : Nat} {s : Nat → Int32} {a : Nat → Nat → Int32} {mf : Int32 → Int32} {T f : Nat} (hl : at_MText h t s a) (hT : s 1 = nI T) (hT2 : T ≤ 6000) (hm : ∀ i, mt_byte s a i = mf i) (hf : f ≤ T) : ab_M y_MText_skips { frames := 0, cells := 0, slots := 0, locals := 0 } [.ref t, .int (nI f)] h (ab_A (some (.int (nI (mt_sk mf T (T - f) f)))) (fun h1 => h = h1)) := by
  have hl0 := hl; obtain ⟨go, g0, g3, g4, g5, g6, g7, g8, g13, g14, g15, g17, g18, g19, g20, g22, g23, g24, g25, g27, g28, g30, g31, g32, g33, g34, g35, g36, g38, g39, g40⟩ := hl
  replace go : h[t]? = some (.inr (14, [.ref (t + 1), .int (nI T), .int (s 2), .ref (t + 2), .ref (t + 3), .ref (t + 4), .ref (t + 5), .ref (t + 6), .ref (t + 7), .int (s 9), .int (s 10), .int (s 11), .int (s 12), .ref (t + 8), .ref (t + 9), .ref (t + 10), .int (s 16), .ref (t + 11), .ref (t + 12), .ref (t + 13), .ref (t + 14), .int (s 21), .ref (t + 15), .ref (t + 16), .ref (t + 17), .ref (t + 18), .int (s 26), .ref (t + 19), .ref (t + 20), .int (s 29), .ref (t + 21), .ref (t + 22), .ref (t + 23), .ref (t + 24), .ref (t + 25), .ref (t + 26), .ref (t + 27), .int (s 37), .ref (t + 28), .ref (t + 29), .ref (t + 30), .int (s 41), .int (s 42)])) := (by rw [← hT]; exact go)
  refine ab_of2 (lv := [some (.ref t), some (.int (nI f)), none, none, none]) 3 rfl rfl (Nat.le_of_ble_eq_true rfl) ?_
  refine ab_iload_n d_MText_skips_0 rfl rfl ?_
  refine ab_istore_n (lv' := [some (.ref t), some (.int (nI f)), some (.int (nI f)), none, none]) d_MText_skips_1 rfl (by decide) rfl ?_
  refine ab_iconst (v := 1) d_MText_skips_2 (by decide) ?_
  refine ab_istore_n (lv' := [some (.ref t), some (.int (nI f)), some (.int (nI f)), some (.int 1), none]) d_MText_skips_3 rfl (by decide) rfl ?_
  refine l_sk (Nat.le_refl _) (Nat.le_refl _) hl0 hT hT2 hm (T - f) f (by omega) (by omega) (fun g1 g2 => ?_)
  refine ab_iload_n d_MText_skips_105 rfl rfl ?_
  exact ab_iret d_MText_skips_106 rfl (Nat.le_refl _) (Nat.le_refl _) ⟨rfl, rfl⟩
def y_MText_digits : ab_Y := (⟨"WorldEngineModel$Text", "digits", "(I)I"⟩, prog_16_method_9_code, 10, (some FieldType.int), [])
theorem d_MText_digits_0 : decode y_MText_digits.2.1 0 = .ok (.iload_n 1, 1) := by decide +kernel
theorem d_MText_digits_1 : decode y_MText_digits.2.1 1 = .ok (.istore_n 2, 1) := by decide +kernel
theorem d_MText_digits_2 : decode y_MText_digits.2.1 2 = .ok (.lconst 0, 1) := by decide +kernel
theorem d_MText_digits_3 : decode y_MText_digits.2.1 3 = .ok (.lstore_n 3, 1) := by decide +kernel
theorem d_MText_digits_4 : decode y_MText_digits.2.1 4 = .ok (.aload_n 0, 1) := by decide +kernel
theorem d_MText_digits_5 : decode y_MText_digits.2.1 5 = .ok (.iload_n 2, 1) := by decide +kernel
theorem d_MText_digits_6 : decode y_MText_digits.2.1 6 = .ok (.invokevirtual 115, 3) := by decide +kernel
theorem d_MText_digits_9 : decode y_MText_digits.2.1 9 = .ok (.invokestatic 129, 3) := by decide +kernel
theorem d_MText_digits_12 : decode y_MText_digits.2.1 12 = .ok (.ifCond .eq 39, 3) := by decide +kernel
theorem d_MText_digits_15 : decode y_MText_digits.2.1 15 = .ok (.lload_n 3, 1) := by decide +kernel
theorem d_MText_digits_16 : decode y_MText_digits.2.1 16 = .ok (.ldc2_w 153, 3) := by decide +kernel
theorem d_MText_digits_19 : decode y_MText_digits.2.1 19 = .ok (.lcmp, 1) := by decide +kernel
theorem d_MText_digits_20 : decode y_MText_digits.2.1 20 = .ok (.ifCond .le 7, 3) := by decide +kernel
theorem d_MText_digits_23 : decode y_MText_digits.2.1 23 = .ok (.lload_n 3, 1) := by decide +kernel
theorem d_MText_digits_24 : decode y_MText_digits.2.1 24 = .ok (.goto 20, 3) := by decide +kernel
theorem d_MText_digits_27 : decode y_MText_digits.2.1 27 = .ok (.ldc2_w 155, 3) := by decide +kernel
theorem d_MText_digits_30 : decode y_MText_digits.2.1 30 = .ok (.lload_n 3, 1) := by decide +kernel
theorem d_MText_digits_31 : decode y_MText_digits.2.1 31 = .ok (.lmul, 1) := by decide +kernel
theorem d_MText_digits_32 : decode y_MText_digits.2.1 32 = .ok (.aload_n 0, 1) := by decide +kernel
theorem d_MText_digits_33 : decode y_MText_digits.2.1 33 = .ok (.getfield 11, 3) := by decide +kernel
theorem d_MText_digits_36 : decode y_MText_digits.2.1 36 = .ok (.iload_n 2, 1) := by decide +kernel
theorem d_MText_digits_37 : decode y_MText_digits.2.1 37 = .ok (.baload, 1) := by decide +kernel
theorem d_MText_digits_38 : decode y_MText_digits.2.1 38 = .ok (.i2l, 1) := by decide +kernel
theorem d_MText_digits_39 : decode y_MText_digits.2.1 39 = .ok (.ladd, 1) := by decide +kernel
theorem d_MText_digits_40 : decode y_MText_digits.2.1 40 = .ok (.ldc2_w 157, 3) := by decide +kernel
theorem d_MText_digits_43 : decode y_MText_digits.2.1 43 = .ok (.lsub, 1) := by decide +kernel
theorem d_MText_digits_44 : decode y_MText_digits.2.1 44 = .ok (.lstore_n 3, 1) := by decide +kernel
theorem d_MText_digits_45 : decode y_MText_digits.2.1 45 = .ok (.iinc 2 1, 3) := by decide +kernel
theorem d_MText_digits_48 : decode y_MText_digits.2.1 48 = .ok (.goto (-44), 3) := by decide +kernel
theorem d_MText_digits_51 : decode y_MText_digits.2.1 51 = .ok (.aload_n 0, 1) := by decide +kernel
theorem d_MText_digits_52 : decode y_MText_digits.2.1 52 = .ok (.iload_n 2, 1) := by decide +kernel
theorem d_MText_digits_53 : decode y_MText_digits.2.1 53 = .ok (.invokevirtual 115, 3) := by decide +kernel
theorem d_MText_digits_56 : decode y_MText_digits.2.1 56 = .ok (.bipush 46, 2) := by decide +kernel
theorem d_MText_digits_58 : decode y_MText_digits.2.1 58 = .ok (.if_icmp .ne 16, 3) := by decide +kernel
theorem d_MText_digits_61 : decode y_MText_digits.2.1 61 = .ok (.aload_n 0, 1) := by decide +kernel
theorem d_MText_digits_62 : decode y_MText_digits.2.1 62 = .ok (.iload_n 2, 1) := by decide +kernel
theorem d_MText_digits_63 : decode y_MText_digits.2.1 63 = .ok (.iconst 1, 1) := by decide +kernel
theorem d_MText_digits_64 : decode y_MText_digits.2.1 64 = .ok (.iadd, 1) := by decide +kernel
theorem d_MText_digits_65 : decode y_MText_digits.2.1 65 = .ok (.invokevirtual 115, 3) := by decide +kernel
theorem d_MText_digits_68 : decode y_MText_digits.2.1 68 = .ok (.invokestatic 129, 3) := by decide +kernel
theorem d_MText_digits_71 : decode y_MText_digits.2.1 71 = .ok (.ifCond .ne 49, 3) := by decide +kernel
theorem d_MText_digits_74 : decode y_MText_digits.2.1 74 = .ok (.aload_n 0, 1) := by decide +kernel
theorem d_MText_digits_75 : decode y_MText_digits.2.1 75 = .ok (.iconst 2, 1) := by decide +kernel
theorem d_MText_digits_76 : decode y_MText_digits.2.1 76 = .ok (.iload_n 1, 1) := by decide +kernel
theorem d_MText_digits_77 : decode y_MText_digits.2.1 77 = .ok (.iload_n 2, 1) := by decide +kernel
theorem d_MText_digits_78 : decode y_MText_digits.2.1 78 = .ok (.invokevirtual 118, 3) := by decide +kernel
theorem d_MText_digits_81 : decode y_MText_digits.2.1 81 = .ok (.aload_n 0, 1) := by decide +kernel
theorem d_MText_digits_82 : decode y_MText_digits.2.1 82 = .ok (.getfield 28, 3) := by decide +kernel
theorem d_MText_digits_85 : decode y_MText_digits.2.1 85 = .ok (.aload_n 0, 1) := by decide +kernel
theorem d_MText_digits_86 : decode y_MText_digits.2.1 86 = .ok (.getfield 108, 3) := by decide +kernel
theorem d_MText_digits_89 : decode y_MText_digits.2.1 89 = .ok (.iconst 1, 1) := by decide +kernel
theorem d_MText_digits_90 : decode y_MText_digits.2.1 90 = .ok (.isub, 1) := by decide +kernel
theorem d_MText_digits_91 : decode y_MText_digits.2.1 91 = .ok (.lload_n 3, 1) := by decide +kernel
theorem d_MText_digits_92 : decode y_MText_digits.2.1 92 = .ok (.ldc2_w 153, 3) := by decide +kernel
theorem d_MText_digits_95 : decode y_MText_digits.2.1 95 = .ok (.lcmp, 1) := by decide +kernel
theorem d_MText_digits_96 : decode y_MText_digits.2.1 96 = .ok (.ifCond .le 7, 3) := by decide +kernel
theorem d_MText_digits_99 : decode y_MText_digits.2.1 99 = .ok (.iconst 1, 1) := by decide +kernel
theorem d_MText_digits_100 : decode y_MText_digits.2.1 100 = .ok (.goto 4, 3) := by decide +kernel
theorem d_MText_digits_103 : decode y_MText_digits.2.1 103 = .ok (.iconst 0, 1) := by decide +kernel
theorem d_MText_digits_104 : decode y_MText_digits.2.1 104 = .ok (.bastore, 1) := by decide +kernel
theorem d_MText_digits_105 : decode y_MText_digits.2.1 105 = .ok (.aload_n 0, 1) := by decide +kernel
theorem d_MText_digits_106 : decode y_MText_digits.2.1 106 = .ok (.getfield 25, 3) := by decide +kernel
theorem d_MText_digits_109 : decode y_MText_digits.2.1 109 = .ok (.aload_n 0, 1) := by decide +kernel
theorem d_MText_digits_110 : decode y_MText_digits.2.1 110 = .ok (.getfield 108, 3) := by decide +kernel
theorem d_MText_digits_113 : decode y_MText_digits.2.1 113 = .ok (.iconst 1, 1) := by decide +kernel
theorem d_MText_digits_114 : decode y_MText_digits.2.1 114 = .ok (.isub, 1) := by decide +kernel
theorem d_MText_digits_115 : decode y_MText_digits.2.1 115 = .ok (.lload_n 3, 1) := by decide +kernel
theorem d_MText_digits_116 : decode y_MText_digits.2.1 116 = .ok (.l2i, 1) := by decide +kernel
theorem d_MText_digits_117 : decode y_MText_digits.2.1 117 = .ok (.iastore, 1) := by decide +kernel
theorem d_MText_digits_118 : decode y_MText_digits.2.1 118 = .ok (.iload_n 2, 1) := by decide +kernel
theorem d_MText_digits_119 : decode y_MText_digits.2.1 119 = .ok (.ireturn, 1) := by decide +kernel
theorem d_MText_digits_120 : decode y_MText_digits.2.1 120 = .ok (.iinc 2 1, 3) := by decide +kernel
theorem d_MText_digits_123 : decode y_MText_digits.2.1 123 = .ok (.iload_n 2, 1) := by decide +kernel
theorem d_MText_digits_124 : decode y_MText_digits.2.1 124 = .ok (.istore 5, 2) := by decide +kernel
theorem d_MText_digits_126 : decode y_MText_digits.2.1 126 = .ok (.lconst 0, 1) := by decide +kernel
theorem d_MText_digits_127 : decode y_MText_digits.2.1 127 = .ok (.lstore 6, 2) := by decide +kernel
theorem d_MText_digits_129 : decode y_MText_digits.2.1 129 = .ok (.lconst 1, 1) := by decide +kernel
theorem d_MText_digits_130 : decode y_MText_digits.2.1 130 = .ok (.lstore 8, 2) := by decide +kernel
theorem d_MText_digits_132 : decode y_MText_digits.2.1 132 = .ok (.aload_n 0, 1) := by decide +kernel
theorem d_MText_digits_133 : decode y_MText_digits.2.1 133 = .ok (.iload_n 2, 1) := by decide +kernel
theorem d_MText_digits_134 : decode y_MText_digits.2.1 134 = .ok (.invokevirtual 115, 3) := by decide +kernel
theorem d_MText_digits_137 : decode y_MText_digits.2.1 137 = .ok (.invokestatic 129, 3) := by decide +kernel
theorem d_MText_digits_140 : decode y_MText_digits.2.1 140 = .ok (.ifCond .eq 45, 3) := by decide +kernel
theorem d_MText_digits_143 : decode y_MText_digits.2.1 143 = .ok (.iload_n 2, 1) := by decide +kernel
theorem d_MText_digits_144 : decode y_MText_digits.2.1 144 = .ok (.iload 5, 2) := by decide +kernel
theorem d_MText_digits_146 : decode y_MText_digits.2.1 146 = .ok (.isub, 1) := by decide +kernel
theorem d_MText_digits_147 : decode y_MText_digits.2.1 147 = .ok (.iconst 4, 1) := by decide +kernel
theorem d_MText_digits_148 : decode y_MText_digits.2.1 148 = .ok (.if_icmp .ge 31, 3) := by decide +kernel
theorem d_MText_digits_151 : decode y_MText_digits.2.1 151 = .ok (.ldc2_w 155, 3) := by decide +kernel
theorem d_MText_digits_154 : decode y_MText_digits.2.1 154 = .ok (.lload 6, 2) := by decide +kernel
theorem d_MText_digits_156 : decode y_MText_digits.2.1 156 = .ok (.lmul, 1) := by decide +kernel
theorem d_MText_digits_157 : decode y_MText_digits.2.1 157 = .ok (.aload_n 0, 1) := by decide +kernel
theorem d_MText_digits_158 : decode y_MText_digits.2.1 158 = .ok (.getfield 11, 3) := by decide +kernel
theorem d_MText_digits_161 : decode y_MText_digits.2.1 161 = .ok (.iload_n 2, 1) := by decide +kernel
theorem d_MText_digits_162 : decode y_MText_digits.2.1 162 = .ok (.baload, 1) := by decide +kernel
theorem d_MText_digits_163 : decode y_MText_digits.2.1 163 = .ok (.i2l, 1) := by decide +kernel
theorem d_MText_digits_164 : decode y_MText_digits.2.1 164 = .ok (.ladd, 1) := by decide +kernel
theorem d_MText_digits_165 : decode y_MText_digits.2.1 165 = .ok (.ldc2_w 157, 3) := by decide +kernel
theorem d_MText_digits_168 : decode y_MText_digits.2.1 168 = .ok (.lsub, 1) := by decide +kernel
theorem d_MText_digits_169 : decode y_MText_digits.2.1 169 = .ok (.lstore 6, 2) := by decide +kernel
theorem d_MText_digits_171 : decode y_MText_digits.2.1 171 = .ok (.lload 8, 2) := by decide +kernel
theorem d_MText_digits_173 : decode y_MText_digits.2.1 173 = .ok (.ldc2_w 155, 3) := by decide +kernel
theorem d_MText_digits_176 : decode y_MText_digits.2.1 176 = .ok (.lmul, 1) := by decide +kernel
theorem d_MText_digits_177 : decode y_MText_digits.2.1 177 = .ok (.lstore 8, 2) := by decide +kernel
theorem d_MText_digits_179 : decode y_MText_digits.2.1 179 = .ok (.iinc 2 1, 3) := by decide +kernel
theorem d_MText_digits_182 : decode y_MText_digits.2.1 182 = .ok (.goto (-50), 3) := by decide +kernel
theorem d_MText_digits_185 : decode y_MText_digits.2.1 185 = .ok (.aload_n 0, 1) := by decide +kernel
theorem d_MText_digits_186 : decode y_MText_digits.2.1 186 = .ok (.iconst 3, 1) := by decide +kernel
theorem d_MText_digits_187 : decode y_MText_digits.2.1 187 = .ok (.iload_n 1, 1) := by decide +kernel
theorem d_MText_digits_188 : decode y_MText_digits.2.1 188 = .ok (.iload_n 2, 1) := by decide +kernel
theorem d_MText_digits_189 : decode y_MText_digits.2.1 189 = .ok (.invokevirtual 118, 3) := by decide +kernel
theorem d_MText_digits_192 : decode y_MText_digits.2.1 192 = .ok (.aload_n 0, 1) := by decide +kernel
theorem d_MText_digits_193 : decode y_MText_digits.2.1 193 = .ok (.getfield 28, 3) := by decide +kernel
theorem d_MText_digits_196 : decode y_MText_digits.2.1 196 = .ok (.aload_n 0, 1) := by decide +kernel
theorem d_MText_digits_197 : decode y_MText_digits.2.1 197 = .ok (.getfield 108, 3) := by decide +kernel
theorem d_MText_digits_200 : decode y_MText_digits.2.1 200 = .ok (.iconst 1, 1) := by decide +kernel
theorem d_MText_digits_201 : decode y_MText_digits.2.1 201 = .ok (.isub, 1) := by decide +kernel
theorem d_MText_digits_202 : decode y_MText_digits.2.1 202 = .ok (.lload_n 3, 1) := by decide +kernel
theorem d_MText_digits_203 : decode y_MText_digits.2.1 203 = .ok (.ldc2_w 159, 3) := by decide +kernel
theorem d_MText_digits_206 : decode y_MText_digits.2.1 206 = .ok (.lcmp, 1) := by decide +kernel
theorem d_MText_digits_207 : decode y_MText_digits.2.1 207 = .ok (.ifCond .gt 11, 3) := by decide +kernel
theorem d_MText_digits_210 : decode y_MText_digits.2.1 210 = .ok (.iload_n 2, 1) := by decide +kernel
theorem d_MText_digits_211 : decode y_MText_digits.2.1 211 = .ok (.iload 5, 2) := by decide +kernel
theorem d_MText_digits_213 : decode y_MText_digits.2.1 213 = .ok (.isub, 1) := by decide +kernel
theorem d_MText_digits_214 : decode y_MText_digits.2.1 214 = .ok (.iconst 4, 1) := by decide +kernel
theorem d_MText_digits_215 : decode y_MText_digits.2.1 215 = .ok (.if_icmp .le 7, 3) := by decide +kernel
theorem d_MText_digits_218 : decode y_MText_digits.2.1 218 = .ok (.iconst 1, 1) := by decide +kernel
theorem d_MText_digits_219 : decode y_MText_digits.2.1 219 = .ok (.goto 4, 3) := by decide +kernel
theorem d_MText_digits_222 : decode y_MText_digits.2.1 222 = .ok (.iconst 0, 1) := by decide +kernel
theorem d_MText_digits_223 : decode y_MText_digits.2.1 223 = .ok (.bastore, 1) := by decide +kernel
theorem d_MText_digits_224 : decode y_MText_digits.2.1 224 = .ok (.aload_n 0, 1) := by decide +kernel
theorem d_MText_digits_225 : decode y_MText_digits.2.1 225 = .ok (.getfield 25, 3) := by decide +kernel
theorem d_MText_digits_228 : decode y_MText_digits.2.1 228 = .ok (.aload_n 0, 1) := by decide +kernel
theorem d_MText_digits_229 : decode y_MText_digits.2.1 229 = .ok (.getfield 108, 3) := by decide +kernel
theorem d_MText_digits_232 : decode y_MText_digits.2.1 232 = .ok (.iconst 1, 1) := by decide +kernel
theorem d_MText_digits_233 : decode y_MText_digits.2.1 233 = .ok (.isub, 1) := by decide +kernel
theorem d_MText_digits_234 : decode y_MText_digits.2.1 234 = .ok (.ldc2_w 161, 3) := by decide +kernel
theorem d_MText_digits_237 : decode y_MText_digits.2.1 237 = .ok (.lload_n 3, 1) := by decide +kernel
theorem d_MText_digits_238 : decode y_MText_digits.2.1 238 = .ok (.lmul, 1) := by decide +kernel
theorem d_MText_digits_239 : decode y_MText_digits.2.1 239 = .ok (.ldc2_w 163, 3) := by decide +kernel
theorem d_MText_digits_242 : decode y_MText_digits.2.1 242 = .ok (.lload 6, 2) := by decide +kernel
theorem d_MText_digits_244 : decode y_MText_digits.2.1 244 = .ok (.lmul, 1) := by decide +kernel
theorem d_MText_digits_245 : decode y_MText_digits.2.1 245 = .ok (.lload 8, 2) := by decide +kernel
theorem d_MText_digits_247 : decode y_MText_digits.2.1 247 = .ok (.ladd, 1) := by decide +kernel
theorem d_MText_digits_248 : decode y_MText_digits.2.1 248 = .ok (.ldc2_w 165, 3) := by decide +kernel
theorem d_MText_digits_251 : decode y_MText_digits.2.1 251 = .ok (.lload 8, 2) := by decide +kernel
theorem d_MText_digits_253 : decode y_MText_digits.2.1 253 = .ok (.lmul, 1) := by decide +kernel
theorem d_MText_digits_254 : decode y_MText_digits.2.1 254 = .ok (.ldiv, 1) := by decide +kernel
theorem d_MText_digits_255 : decode y_MText_digits.2.1 255 = .ok (.ladd, 1) := by decide +kernel
theorem d_MText_digits_256 : decode y_MText_digits.2.1 256 = .ok (.l2i, 1) := by decide +kernel
theorem d_MText_digits_257 : decode y_MText_digits.2.1 257 = .ok (.iastore, 1) := by decide +kernel
theorem d_MText_digits_258 : decode y_MText_digits.2.1 258 = .ok (.iload_n 2, 1) := by decide +kernel
theorem d_MText_digits_259 : decode y_MText_digits.2.1 259 = .ok (.ireturn, 1) := by decide +kernel
theorem s_MText_digits : ab_Stat y_MText_digits 1 := ⟨(k10 140 rfl rfl), (k1 20 rfl rfl), ⟨by decide, by decide⟩, by decide +kernel⟩
theorem i_MText_digits : Cond.instanceMethod y_MText_digits.1 ∈ ab_T := (k10 139 rfl rfl)
theorem v_MText_digits : Cond.selects "WorldEngineModel$Text" y_MText_digits.1 y_MText_digits.1 ∈ ab_T := ab_s (List.mem_of_getElem? (i := 112) rfl) rfl
def sp_d1  (mf : Int32 → Int32) (T : Nat) : Nat → Nat → Int64 → Nat × Int64
  | 0, i, v => (i, v)
  | n + 1, i, v => if (sp_MText_isDigit (mf (nI i))) = (0 : Int32) then (i, v) else if (lg_cmp v 2147483647) ≤ (0 : Int32) then sp_d1  mf T n (i + 1) (((10 * v) + (((mf (nI i)) : Int32).toInt64)) - 48) else sp_d1  mf T n (i + 1) v
termination_by n => n
theorem sp_d1_0  (mf : Int32 → Int32) (T : Nat) (i : Nat) (v : Int64) : sp_d1  mf T 0 i v = (i, v) := by rw [sp_d1]
set_option maxRecDepth 20000 in
set_option maxHeartbeats 2000000 in
theorem l_d1 {h : List ab_E} {t : Nat} {s : Nat → Int32} {a : Nat → Nat → Int32} {mf : Int32 → Int32} {T : Nat} {Po : Outcome → List ab_E → Prop} {mc ms cells slots : Nat} (hl : at_MText h t s a) {f : Int32} (hT : s 1 = nI T) (hT2 : T ≤ 6000) (hm : ∀ i, mt_byte s a i = mf i) (hcl : cells ≤ ({ frames := 4, cells := 0, slots := 0, locals := 160 } : Room).cells) (hsl : slots ≤ ({ frames := 4, cells := 0, slots := 0, locals := 160 } : Room).slots) : ∀ (n i : Nat) (v : Int64), T ≤ i + n → i ≤ T → (i ≤ (sp_d1  mf T n i v).1 → (sp_d1  mf T n i v).1 ≤ T → ab_V y_MText_digits { frames := 4, cells := 0, slots := 0, locals := 160 } Po mc ms cells slots 51 [some (.ref t), some (.int f), some (.int (nI ((sp_d1  mf T n i v).1))), some (.long ((sp_d1  mf T n i v).2)), none, none, none, none, none, none] [] h) → ab_V y_MText_digits { frames := 4, cells := 0, slots := 0, locals := 160 } Po mc ms cells slots 4 [some (.ref t), some (.int f), some (.int (nI i)), some (.long v), none, none, none, none, none, none] [] h := by
  have hl0 := hl; obtain ⟨go, g0, g3, g4, g5, g6, g7, g8, g13, g14, g15, g17, g18, g19, g20, g22, g23, g24, g25, g27, g28, g30, g31, g32, g33, g34, g35, g36, g38, g39, g40⟩ := hl
  replace go : h[t]? = some (.inr (14, [.ref (t + 1), .int (nI T), .int (s 2), .ref (t + 2), .ref (t + 3), .ref (t + 4), .ref (t + 5), .ref (t + 6), .ref (t + 7), .int (s 9), .int (s 10), .int (s 11), .int (s 12), .ref (t + 8), .ref (t + 9), .ref (t + 10), .int (s 16), .ref (t + 11), .ref (t + 12), .ref (t + 13), .ref (t + 14), .int (s 21), .ref (t + 15), .ref (t + 16), .ref (t + 17), .ref (t + 18), .int (s 26), .ref (t + 19), .ref (t + 20), .int (s 29), .ref (t + 21), .ref (t + 22), .ref (t + 23), .ref (t + 24), .ref (t + 25), .ref (t + 26), .ref (t + 27), .int (s 37), .ref (t + 28), .ref (t + 29), .ref (t + 30), .int (s 41), .int (s 42)])) := (by rw [← hT]; exact go)
  intro n
  induction n with
  | zero =>
    intro i v hif hiT hk
    refine ab_aload_n d_MText_digits_4 rfl rfl rfl ?_
    refine ab_iload_n d_MText_digits_5 rfl rfl ?_
    refine ab_callV_a (As := [.int (nI i)]) (rest := []) d_MText_digits_6 (c_mf hl0 hT hT2 hm (nI_pos (by omega))) (ab_mkC s_MText_letter (Nat.le_of_ble_eq_true rfl) (Nat.le_of_ble_eq_true rfl) (by first | exact hcl | (show _ ≤ _; omega)) (by first | exact hsl | (show _ ≤ _; omega))) (k10 116 rfl rfl) i_MText_letter v_MText_letter go rfl rfl (Nat.le_of_ble_eq_true rfl) (fun h2 q1 => ?_)
    subst q1
    refine ab_callS_a (As := [.int (mf (nI i))]) (rest := []) d_MText_digits_9 (c_MText_isDigit) (ab_mkC s_MText_isDigit (Nat.le_of_ble_eq_true rfl) (Nat.le_of_ble_eq_true rfl) (by first | exact hcl | (show _ ≤ _; omega)) (by first | exact hsl | (show _ ≤ _; omega))) (k10 131 rfl rfl) t_MText_isDigit rfl (Nat.le_of_ble_eq_true rfl) (fun h4 q3 => ?_)
    subst q3
    refine ab_if_eq (tgt := 51) d_MText_digits_12 (by decide) (fun q5 => ?_) (fun q5 => ?_)
    · rw [sp_d1_0] at hk
      exact hk (Nat.le_refl _) hiT
    · exact absurd (dig_lt hT hm (by omega) q5) (by omega)
  | succ n ih =>
    intro i v hif hiT hk
    refine ab_aload_n d_MText_digits_4 rfl rfl rfl ?_
    refine ab_iload_n d_MText_digits_5 rfl rfl ?_
    refine ab_callV_a (As := [.int (nI i)]) (rest := []) d_MText_digits_6 (c_mf hl0 hT hT2 hm (nI_pos (by omega))) (ab_mkC s_MText_letter (Nat.le_of_ble_eq_true rfl) (Nat.le_of_ble_eq_true rfl) (by first | exact hcl | (show _ ≤ _; omega)) (by first | exact hsl | (show _ ≤ _; omega))) (k10 116 rfl rfl) i_MText_letter v_MText_letter go rfl rfl (Nat.le_of_ble_eq_true rfl) (fun h2 q1 => ?_)
    subst q1
    refine ab_callS_a (As := [.int (mf (nI i))]) (rest := []) d_MText_digits_9 (c_MText_isDigit) (ab_mkC s_MText_isDigit (Nat.le_of_ble_eq_true rfl) (Nat.le_of_ble_eq_true rfl) (by first | exact hcl | (show _ ≤ _; omega)) (by first | exact hsl | (show _ ≤ _; omega))) (k10 131 rfl rfl) t_MText_isDigit rfl (Nat.le_of_ble_eq_true rfl) (fun h4 q3 => ?_)
    subst q3
    refine ab_if_eq (tgt := 51) d_MText_digits_12 (by decide) (fun q5 => ?_) (fun q5 => ?_)
    · have heq : (sp_d1  mf T (n + 1) i v) = (i, v) := by rw [sp_d1]; rw [if_pos q5]; try rfl
      refine ab_widen (cells' := cells) (slots' := slots) (by first | exact Nat.le_refl _ | (show _ ≤ _; omega)) (by first | exact Nat.le_refl _ | (show _ ≤ _; omega)) ?_
      rw [heq] at hk
      exact hk (by first | omega | (show _ ≤ _; omega)) (by first | omega | (show _ ≤ _; omega))
    · have hlt : i < T := dig_lt hT hm (by omega) q5
      refine ab_lload_n d_MText_digits_15 rfl rfl ?_
      refine ab_ldc2 d_MText_digits_16 (k10 141 rfl rfl) ?_
      refine ab_lcmp d_MText_digits_19 ?_
      refine ab_if_le (tgt := 27) d_MText_digits_20 (by decide) (fun q6 => ?_) (fun q6 => ?_)
      · refine ab_ldc2 d_MText_digits_27 (k10 142 rfl rfl) ?_
        refine ab_lload_n d_MText_digits_30 rfl rfl ?_
        refine ab_lmul d_MText_digits_31 ?_
        refine ab_aload_n d_MText_digits_32 rfl rfl rfl ?_
        refine ab_get (f := 0) d_MText_digits_33 go rfl (by decide) (k8 159 rfl rfl) rfl ?_
        refine ab_iload_n d_MText_digits_36 rfl rfl ?_
        refine ab_bald d_MText_digits_37 tB g0 (vp_in_nI (by omega) (by decide)) ?_
        refine ab_topi (fun x7 ex7 => ?_)
        obtain rfl : x7 = mf (nI i) := ex7.trans (mt_in hT hm (fun z => absurd ((nI_leI (by omega) (by omega)).mp z) (by omega)))
        clear ex7
        refine ab_i2l d_MText_digits_38 ?_
        refine ab_ladd d_MText_digits_39 ?_
        refine ab_ldc2 d_MText_digits_40 (k10 143 rfl rfl) ?_
        refine ab_lsub d_MText_digits_43 ?_
        refine ab_topl (fun x8 ex8 => ?_)
        refine ab_lstore_n (lv' := [some (.ref t), some (.int f), some (.int (nI i)), some (.long x8), none, none, none, none, none, none]) d_MText_digits_44 rfl (by decide) rfl ?_
        obtain ⟨x9, ex9⟩ : ∃ q : Int32, q = nI i + 1 := ⟨_, rfl⟩
        refine ab_iinc (v := x9) (lv' := [some (.ref t), some (.int f), some (.int x9), some (.long x8), none, none, none, none, none, none]) d_MText_digits_45 rfl (by rw [ex9]; rfl) (by decide) rfl ?_
        refine ab_goto (tgt := 4) d_MText_digits_48 (by decide) ?_
        subst ex8
        subst ex9
        have heq : (sp_d1  mf T (n + 1) i v) = (sp_d1  mf T n (i + 1) (((10 * v) + (((mf (nI i)) : Int32).toInt64)) - 48)) := by rw [sp_d1]; rw [if_neg q5]; rw [if_pos q6]; try rfl
        rw [nI_1]
        refine ab_widen (cells' := cells) (slots' := slots) (by first | exact Nat.le_refl _ | (show _ ≤ _; omega)) (by first | exact Nat.le_refl _ | (show _ ≤ _; omega)) ?_
        rw [heq] at hk
        exact ih (i + 1) (((10 * v) + (((mf (nI i)) : Int32).toInt64)) - 48) (by omega) (by omega) (fun q1 q2 => hk (by omega) q2)
      · refine ab_lload_n d_MText_digits_23 rfl rfl ?_
        refine ab_goto (tgt := 44) d_MText_digits_24 (by decide) ?_
        refine ab_lstore_n (lv' := [some (.ref t), some (.int f), some (.int (nI i)), some (.long v), none, none, none, none, none, none]) d_MText_digits_44 rfl (by decide) rfl ?_
        obtain ⟨x10, ex10⟩ : ∃ q : Int32, q = nI i + 1 := ⟨_, rfl⟩
        refine ab_iinc (v := x10) (lv' := [some (.ref t), some (.int f), some (.int x10), some (.long v), none, none, none, none, none, none]) d_MText_digits_45 rfl (by rw [ex10]; rfl) (by decide) rfl ?_
        refine ab_goto (tgt := 4) d_MText_digits_48 (by decide) ?_
        subst ex10
        have heq : (sp_d1  mf T (n + 1) i v) = (sp_d1  mf T n (i + 1) v) := by rw [sp_d1]; rw [if_neg q5]; rw [if_neg q6]; try rfl
        rw [nI_1]
        refine ab_widen (cells' := cells) (slots' := slots) (by first | exact Nat.le_refl _ | (show _ ≤ _; omega)) (by first | exact Nat.le_refl _ | (show _ ≤ _; omega)) ?_
        rw [heq] at hk
        exact ih (i + 1) v (by omega) (by omega) (fun q1 q2 => hk (by omega) q2)
def sp_d2  (mf : Int32 → Int32) (T : Nat) (pp : Nat) : Nat → Nat → Int64 → Int64 → Nat × Int64 × Int64
  | 0, i, pt, un => (i, pt, un)
  | n + 1, i, pt, un => if (sp_MText_isDigit (mf (nI i))) = (0 : Int32) then (i, pt, un) else if (4 : Int32) ≤ ((nI i) - (nI pp)) then sp_d2  mf T pp n (i + 1) pt un else sp_d2  mf T pp n (i + 1) (((10 * pt) + (((mf (nI i)) : Int32).toInt64)) - 48) (un * 10)
termination_by n => n
theorem sp_d2_0  (mf : Int32 → Int32) (T : Nat) (pp : Nat) (i : Nat) (pt : Int64) (un : Int64) : sp_d2  mf T pp 0 i pt un = (i, pt, un) := by rw [sp_d2]
set_option maxRecDepth 20000 in
set_option maxHeartbeats 2000000 in
theorem l_d2 {h : List ab_E} {t : Nat} {s : Nat → Int32} {a : Nat → Nat → Int32} {mf : Int32 → Int32} {T : Nat} {pp : Nat} {Po : Outcome → List ab_E → Prop} {mc ms cells slots : Nat} (hl : at_MText h t s a) {f : Int32} {v : Int64} (hT : s 1 = nI T) (hT2 : T ≤ 6000) (hm : ∀ i, mt_byte s a i = mf i) (hcl : cells ≤ ({ frames := 4, cells := 0, slots := 0, locals := 160 } : Room).cells) (hsl : slots ≤ ({ frames := 4, cells := 0, slots := 0, locals := 160 } : Room).slots) : ∀ (n i : Nat) (pt : Int64) (un : Int64), T ≤ i + n → i ≤ T → (i ≤ (sp_d2  mf T pp n i pt un).1 → (sp_d2  mf T pp n i pt un).1 ≤ T → ab_V y_MText_digits { frames := 4, cells := 0, slots := 0, locals := 160 } Po mc ms cells slots 185 [some (.ref t), some (.int f), some (.int (nI ((sp_d2  mf T pp n i pt un).1))), some (.long v), none, some (.int (nI pp)), some (.long ((sp_d2  mf T pp n i pt un).2.1)), none, some (.long ((sp_d2  mf T pp n i pt un).2.2)), none] [] h) → ab_V y_MText_digits { frames := 4, cells := 0, slots := 0, locals := 160 } Po mc ms cells slots 132 [some (.ref t), some (.int f), some (.int (nI i)), some (.long v), none, some (.int (nI pp)), some (.long pt), none, some (.long un), none] [] h := by
  have hl0 := hl; obtain ⟨go, g0, g3, g4, g5, g6, g7, g8, g13, g14, g15, g17, g18, g19, g20, g22, g23, g24, g25, g27, g28, g30, g31, g32, g33, g34, g35, g36, g38, g39, g40⟩ := hl
  replace go : h[t]? = some (.inr (14, [.ref (t + 1), .int (nI T), .int (s 2), .ref (t + 2), .ref (t + 3), .ref (t + 4), .ref (t + 5), .ref (t + 6), .ref (t + 7), .int (s 9), .int (s 10), .int (s 11), .int (s 12), .ref (t + 8), .ref (t + 9), .ref (t + 10), .int (s 16), .ref (t + 11), .ref (t + 12), .ref (t + 13), .ref (t + 14), .int (s 21), .ref (t + 15), .ref (t + 16), .ref (t + 17), .ref (t + 18), .int (s 26), .ref (t + 19), .ref (t + 20), .int (s 29), .ref (t + 21), .ref (t + 22), .ref (t + 23), .ref (t + 24), .ref (t + 25), .ref (t + 26), .ref (t + 27), .int (s 37), .ref (t + 28), .ref (t + 29), .ref (t + 30), .int (s 41), .int (s 42)])) := (by rw [← hT]; exact go)
  intro n
  induction n with
  | zero =>
    intro i pt un hif hiT hk
    refine ab_aload_n d_MText_digits_132 rfl rfl rfl ?_
    refine ab_iload_n d_MText_digits_133 rfl rfl ?_
    refine ab_callV_a (As := [.int (nI i)]) (rest := []) d_MText_digits_134 (c_mf hl0 hT hT2 hm (nI_pos (by omega))) (ab_mkC s_MText_letter (Nat.le_of_ble_eq_true rfl) (Nat.le_of_ble_eq_true rfl) (by first | exact hcl | (show _ ≤ _; omega)) (by first | exact hsl | (show _ ≤ _; omega))) (k10 116 rfl rfl) i_MText_letter v_MText_letter go rfl rfl (Nat.le_of_ble_eq_true rfl) (fun h2 q1 => ?_)
    subst q1
    refine ab_callS_a (As := [.int (mf (nI i))]) (rest := []) d_MText_digits_137 (c_MText_isDigit) (ab_mkC s_MText_isDigit (Nat.le_of_ble_eq_true rfl) (Nat.le_of_ble_eq_true rfl) (by first | exact hcl | (show _ ≤ _; omega)) (by first | exact hsl | (show _ ≤ _; omega))) (k10 131 rfl rfl) t_MText_isDigit rfl (Nat.le_of_ble_eq_true rfl) (fun h4 q3 => ?_)
    subst q3
    refine ab_if_eq (tgt := 185) d_MText_digits_140 (by decide) (fun q5 => ?_) (fun q5 => ?_)
    · rw [sp_d2_0] at hk
      exact hk (Nat.le_refl _) hiT
    · exact absurd (dig_lt hT hm (by omega) q5) (by omega)
  | succ n ih =>
    intro i pt un hif hiT hk
    refine ab_aload_n d_MText_digits_132 rfl rfl rfl ?_
    refine ab_iload_n d_MText_digits_133 rfl rfl ?_
    refine ab_callV_a (As := [.int (nI i)]) (rest := []) d_MText_digits_134 (c_mf hl0 hT hT2 hm (nI_pos (by omega))) (ab_mkC s_MText_letter (Nat.le_of_ble_eq_true rfl) (Nat.le_of_ble_eq_true rfl) (by first | exact hcl | (show _ ≤ _; omega)) (by first | exact hsl | (show _ ≤ _; omega))) (k10 116 rfl rfl) i_MText_letter v_MText_letter go rfl rfl (Nat.le_of_ble_eq_true rfl) (fun h2 q1 => ?_)
    subst q1
    refine ab_callS_a (As := [.int (mf (nI i))]) (rest := []) d_MText_digits_137 (c_MText_isDigit) (ab_mkC s_MText_isDigit (Nat.le_of_ble_eq_true rfl) (Nat.le_of_ble_eq_true rfl) (by first | exact hcl | (show _ ≤ _; omega)) (by first | exact hsl | (show _ ≤ _; omega))) (k10 131 rfl rfl) t_MText_isDigit rfl (Nat.le_of_ble_eq_true rfl) (fun h4 q3 => ?_)
    subst q3
    refine ab_if_eq (tgt := 185) d_MText_digits_140 (by decide) (fun q5 => ?_) (fun q5 => ?_)
    · have heq : (sp_d2  mf T pp (n + 1) i pt un) = (i, pt, un) := by rw [sp_d2]; rw [if_pos q5]; try rfl
      refine ab_widen (cells' := cells) (slots' := slots) (by first | exact Nat.le_refl _ | (show _ ≤ _; omega)) (by first | exact Nat.le_refl _ | (show _ ≤ _; omega)) ?_
      rw [heq] at hk
      exact hk (by first | omega | (show _ ≤ _; omega)) (by first | omega | (show _ ≤ _; omega))
    · have hlt : i < T := dig_lt hT hm (by omega) q5
      refine ab_iload_n d_MText_digits_143 rfl rfl ?_
      refine ab_iload d_MText_digits_144 rfl ?_
      refine ab_isub d_MText_digits_146 ?_
      refine ab_iconst (v := 4) d_MText_digits_147 (by decide) ?_
      refine ab_icmp_ge (tgt := 179) d_MText_digits_148 (by decide) (fun q6 => ?_) (fun q6 => ?_)
      · obtain ⟨x7, ex7⟩ : ∃ q : Int32, q = nI i + 1 := ⟨_, rfl⟩
        refine ab_iinc (v := x7) (lv' := [some (.ref t), some (.int f), some (.int x7), some (.long v), none, some (.int (nI pp)), some (.long pt), none, some (.long un), none]) d_MText_digits_179 rfl (by rw [ex7]; rfl) (by decide) rfl ?_
        refine ab_goto (tgt := 132) d_MText_digits_182 (by decide) ?_
        subst ex7
        have heq : (sp_d2  mf T pp (n + 1) i pt un) = (sp_d2  mf T pp n (i + 1) pt un) := by rw [sp_d2]; rw [if_neg q5]; rw [if_pos q6]; try rfl
        rw [nI_1]
        refine ab_widen (cells' := cells) (slots' := slots) (by first | exact Nat.le_refl _ | (show _ ≤ _; omega)) (by first | exact Nat.le_refl _ | (show _ ≤ _; omega)) ?_
        rw [heq] at hk
        exact ih (i + 1) pt un (by omega) (by omega) (fun q1 q2 => hk (by omega) q2)
      · refine ab_ldc2 d_MText_digits_151 (k10 142 rfl rfl) ?_
        refine ab_lload d_MText_digits_154 rfl ?_
        refine ab_lmul d_MText_digits_156 ?_
        refine ab_aload_n d_MText_digits_157 rfl rfl rfl ?_
        refine ab_get (f := 0) d_MText_digits_158 go rfl (by decide) (k8 159 rfl rfl) rfl ?_
        refine ab_iload_n d_MText_digits_161 rfl rfl ?_
        refine ab_bald d_MText_digits_162 tB g0 (vp_in_nI (by omega) (by decide)) ?_
        refine ab_topi (fun x8 ex8 => ?_)
        obtain rfl : x8 = mf (nI i) := ex8.trans (mt_in hT hm (fun z => absurd ((nI_leI (by omega) (by omega)).mp z) (by omega)))
        clear ex8
        refine ab_i2l d_MText_digits_163 ?_
        refine ab_ladd d_MText_digits_164 ?_
        refine ab_ldc2 d_MText_digits_165 (k10 143 rfl rfl) ?_
        refine ab_lsub d_MText_digits_168 ?_
        refine ab_topl (fun x9 ex9 => ?_)
        refine ab_lstore (lv' := [some (.ref t), some (.int f), some (.int (nI i)), some (.long v), none, some (.int (nI pp)), some (.long x9), none, some (.long un), none]) d_MText_digits_169 (by decide) rfl ?_
        refine ab_lload d_MText_digits_171 rfl ?_
        refine ab_ldc2 d_MText_digits_173 (k10 142 rfl rfl) ?_
        refine ab_lmul d_MText_digits_176 ?_
        refine ab_lstore (lv' := [some (.ref t), some (.int f), some (.int (nI i)), some (.long v), none, some (.int (nI pp)), some (.long x9), none, some (.long (un * 10)), none]) d_MText_digits_177 (by decide) rfl ?_
        obtain ⟨x10, ex10⟩ : ∃ q : Int32, q = nI i + 1 := ⟨_, rfl⟩
        refine ab_iinc (v := x10) (lv' := [some (.ref t), some (.int f), some (.int x10), some (.long v), none, some (.int (nI pp)), some (.long x9), none, some (.long (un * 10)), none]) d_MText_digits_179 rfl (by rw [ex10]; rfl) (by decide) rfl ?_
        refine ab_goto (tgt := 132) d_MText_digits_182 (by decide) ?_
        subst ex9
        subst ex10
        have heq : (sp_d2  mf T pp (n + 1) i pt un) = (sp_d2  mf T pp n (i + 1) (((10 * pt) + (((mf (nI i)) : Int32).toInt64)) - 48) (un * 10)) := by rw [sp_d2]; rw [if_neg q5]; rw [if_neg q6]; try rfl
        rw [nI_1]
        refine ab_widen (cells' := cells) (slots' := slots) (by first | exact Nat.le_refl _ | (show _ ≤ _; omega)) (by first | exact Nat.le_refl _ | (show _ ≤ _; omega)) ?_
        rw [heq] at hk
        exact ih (i + 1) (((10 * pt) + (((mf (nI i)) : Int32).toInt64)) - 48) (un * 10) (by omega) (by omega) (fun q1 q2 => hk (by omega) q2)
