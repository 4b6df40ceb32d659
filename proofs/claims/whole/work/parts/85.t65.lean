def y_MRunner_emits : ab_Y := (⟨"WorldEngineModel$Runner", "emits", "()V"⟩, prog_15_method_18_code, 9, none, [])
theorem d_MRunner_emits_0 : decode y_MRunner_emits.2.1 0 = .ok (.aload_n 0, 1) := by decide +kernel
theorem d_MRunner_emits_1 : decode y_MRunner_emits.2.1 1 = .ok (.getfield 25, 3) := by decide +kernel
theorem d_MRunner_emits_4 : decode y_MRunner_emits.2.1 4 = .ok (.getfield 122, 3) := by decide +kernel
theorem d_MRunner_emits_7 : decode y_MRunner_emits.2.1 7 = .ok (.aload_n 0, 1) := by decide +kernel
theorem d_MRunner_emits_8 : decode y_MRunner_emits.2.1 8 = .ok (.getfield 108, 3) := by decide +kernel
theorem d_MRunner_emits_11 : decode y_MRunner_emits.2.1 11 = .ok (.iaload, 1) := by decide +kernel
theorem d_MRunner_emits_12 : decode y_MRunner_emits.2.1 12 = .ok (.istore_n 1, 1) := by decide +kernel
theorem d_MRunner_emits_13 : decode y_MRunner_emits.2.1 13 = .ok (.aload_n 0, 1) := by decide +kernel
theorem d_MRunner_emits_14 : decode y_MRunner_emits.2.1 14 = .ok (.dup, 1) := by decide +kernel
theorem d_MRunner_emits_15 : decode y_MRunner_emits.2.1 15 = .ok (.getfield 108, 3) := by decide +kernel
theorem d_MRunner_emits_18 : decode y_MRunner_emits.2.1 18 = .ok (.iconst 2, 1) := by decide +kernel
theorem d_MRunner_emits_19 : decode y_MRunner_emits.2.1 19 = .ok (.iadd, 1) := by decide +kernel
theorem d_MRunner_emits_20 : decode y_MRunner_emits.2.1 20 = .ok (.putfield 108, 3) := by decide +kernel
theorem d_MRunner_emits_23 : decode y_MRunner_emits.2.1 23 = .ok (.iconst 0, 1) := by decide +kernel
theorem d_MRunner_emits_24 : decode y_MRunner_emits.2.1 24 = .ok (.istore_n 2, 1) := by decide +kernel
theorem d_MRunner_emits_25 : decode y_MRunner_emits.2.1 25 = .ok (.iconst 0, 1) := by decide +kernel
theorem d_MRunner_emits_26 : decode y_MRunner_emits.2.1 26 = .ok (.istore_n 3, 1) := by decide +kernel
theorem d_MRunner_emits_27 : decode y_MRunner_emits.2.1 27 = .ok (.iconst 0, 1) := by decide +kernel
theorem d_MRunner_emits_28 : decode y_MRunner_emits.2.1 28 = .ok (.istore 4, 2) := by decide +kernel
theorem d_MRunner_emits_30 : decode y_MRunner_emits.2.1 30 = .ok (.iconst 0, 1) := by decide +kernel
theorem d_MRunner_emits_31 : decode y_MRunner_emits.2.1 31 = .ok (.istore 5, 2) := by decide +kernel
theorem d_MRunner_emits_33 : decode y_MRunner_emits.2.1 33 = .ok (.iconst 0, 1) := by decide +kernel
theorem d_MRunner_emits_34 : decode y_MRunner_emits.2.1 34 = .ok (.istore 6, 2) := by decide +kernel
theorem d_MRunner_emits_36 : decode y_MRunner_emits.2.1 36 = .ok (.iload 6, 2) := by decide +kernel
theorem d_MRunner_emits_38 : decode y_MRunner_emits.2.1 38 = .ok (.aload_n 0, 1) := by decide +kernel
theorem d_MRunner_emits_39 : decode y_MRunner_emits.2.1 39 = .ok (.getfield 25, 3) := by decide +kernel
theorem d_MRunner_emits_42 : decode y_MRunner_emits.2.1 42 = .ok (.getfield 203, 3) := by decide +kernel
theorem d_MRunner_emits_45 : decode y_MRunner_emits.2.1 45 = .ok (.iload_n 1, 1) := by decide +kernel
theorem d_MRunner_emits_46 : decode y_MRunner_emits.2.1 46 = .ok (.iaload, 1) := by decide +kernel
theorem d_MRunner_emits_47 : decode y_MRunner_emits.2.1 47 = .ok (.if_icmp .ge 104, 3) := by decide +kernel
theorem d_MRunner_emits_50 : decode y_MRunner_emits.2.1 50 = .ok (.aload_n 0, 1) := by decide +kernel
theorem d_MRunner_emits_51 : decode y_MRunner_emits.2.1 51 = .ok (.getfield 96, 3) := by decide +kernel
theorem d_MRunner_emits_54 : decode y_MRunner_emits.2.1 54 = .ok (.ifCond .ne 97, 3) := by decide +kernel
theorem d_MRunner_emits_57 : decode y_MRunner_emits.2.1 57 = .ok (.aload_n 0, 1) := by decide +kernel
theorem d_MRunner_emits_58 : decode y_MRunner_emits.2.1 58 = .ok (.getfield 25, 3) := by decide +kernel
theorem d_MRunner_emits_61 : decode y_MRunner_emits.2.1 61 = .ok (.getfield 206, 3) := by decide +kernel
theorem d_MRunner_emits_64 : decode y_MRunner_emits.2.1 64 = .ok (.iconst 4, 1) := by decide +kernel
theorem d_MRunner_emits_65 : decode y_MRunner_emits.2.1 65 = .ok (.iload_n 1, 1) := by decide +kernel
theorem d_MRunner_emits_66 : decode y_MRunner_emits.2.1 66 = .ok (.imul, 1) := by decide +kernel
theorem d_MRunner_emits_67 : decode y_MRunner_emits.2.1 67 = .ok (.iload 6, 2) := by decide +kernel
theorem d_MRunner_emits_69 : decode y_MRunner_emits.2.1 69 = .ok (.iadd, 1) := by decide +kernel
theorem d_MRunner_emits_70 : decode y_MRunner_emits.2.1 70 = .ok (.iaload, 1) := by decide +kernel
theorem d_MRunner_emits_71 : decode y_MRunner_emits.2.1 71 = .ok (.aload_n 0, 1) := by decide +kernel
theorem d_MRunner_emits_72 : decode y_MRunner_emits.2.1 72 = .ok (.invokevirtual 137, 3) := by decide +kernel
theorem d_MRunner_emits_75 : decode y_MRunner_emits.2.1 75 = .ok (.invokestatic 163, 3) := by decide +kernel
theorem d_MRunner_emits_78 : decode y_MRunner_emits.2.1 78 = .ok (.istore 7, 2) := by decide +kernel
theorem d_MRunner_emits_80 : decode y_MRunner_emits.2.1 80 = .ok (.aload_n 0, 1) := by decide +kernel
theorem d_MRunner_emits_81 : decode y_MRunner_emits.2.1 81 = .ok (.dup, 1) := by decide +kernel
theorem d_MRunner_emits_82 : decode y_MRunner_emits.2.1 82 = .ok (.getfield 108, 3) := by decide +kernel
theorem d_MRunner_emits_85 : decode y_MRunner_emits.2.1 85 = .ok (.iconst 1, 1) := by decide +kernel
theorem d_MRunner_emits_86 : decode y_MRunner_emits.2.1 86 = .ok (.iadd, 1) := by decide +kernel
theorem d_MRunner_emits_87 : decode y_MRunner_emits.2.1 87 = .ok (.putfield 108, 3) := by decide +kernel
theorem d_MRunner_emits_90 : decode y_MRunner_emits.2.1 90 = .ok (.iload 6, 2) := by decide +kernel
theorem d_MRunner_emits_92 : decode y_MRunner_emits.2.1 92 = .ok (.ifCond .ne 8, 3) := by decide +kernel
theorem d_MRunner_emits_95 : decode y_MRunner_emits.2.1 95 = .ok (.iload 7, 2) := by decide +kernel
theorem d_MRunner_emits_97 : decode y_MRunner_emits.2.1 97 = .ok (.goto 4, 3) := by decide +kernel
theorem d_MRunner_emits_100 : decode y_MRunner_emits.2.1 100 = .ok (.iload_n 2, 1) := by decide +kernel
theorem d_MRunner_emits_101 : decode y_MRunner_emits.2.1 101 = .ok (.istore_n 2, 1) := by decide +kernel
theorem d_MRunner_emits_102 : decode y_MRunner_emits.2.1 102 = .ok (.iload 6, 2) := by decide +kernel
theorem d_MRunner_emits_104 : decode y_MRunner_emits.2.1 104 = .ok (.iconst 1, 1) := by decide +kernel
theorem d_MRunner_emits_105 : decode y_MRunner_emits.2.1 105 = .ok (.if_icmp .ne 8, 3) := by decide +kernel
theorem d_MRunner_emits_108 : decode y_MRunner_emits.2.1 108 = .ok (.iload 7, 2) := by decide +kernel
theorem d_MRunner_emits_110 : decode y_MRunner_emits.2.1 110 = .ok (.goto 4, 3) := by decide +kernel
theorem d_MRunner_emits_113 : decode y_MRunner_emits.2.1 113 = .ok (.iload_n 3, 1) := by decide +kernel
theorem d_MRunner_emits_114 : decode y_MRunner_emits.2.1 114 = .ok (.istore_n 3, 1) := by decide +kernel
theorem d_MRunner_emits_115 : decode y_MRunner_emits.2.1 115 = .ok (.iload 6, 2) := by decide +kernel
theorem d_MRunner_emits_117 : decode y_MRunner_emits.2.1 117 = .ok (.iconst 2, 1) := by decide +kernel
theorem d_MRunner_emits_118 : decode y_MRunner_emits.2.1 118 = .ok (.if_icmp .ne 8, 3) := by decide +kernel
theorem d_MRunner_emits_121 : decode y_MRunner_emits.2.1 121 = .ok (.iload 7, 2) := by decide +kernel
theorem d_MRunner_emits_123 : decode y_MRunner_emits.2.1 123 = .ok (.goto 5, 3) := by decide +kernel
theorem d_MRunner_emits_126 : decode y_MRunner_emits.2.1 126 = .ok (.iload 4, 2) := by decide +kernel
theorem d_MRunner_emits_128 : decode y_MRunner_emits.2.1 128 = .ok (.istore 4, 2) := by decide +kernel
theorem d_MRunner_emits_130 : decode y_MRunner_emits.2.1 130 = .ok (.iload 6, 2) := by decide +kernel
theorem d_MRunner_emits_132 : decode y_MRunner_emits.2.1 132 = .ok (.iconst 3, 1) := by decide +kernel
theorem d_MRunner_emits_133 : decode y_MRunner_emits.2.1 133 = .ok (.if_icmp .ne 8, 3) := by decide +kernel
theorem d_MRunner_emits_136 : decode y_MRunner_emits.2.1 136 = .ok (.iload 7, 2) := by decide +kernel
theorem d_MRunner_emits_138 : decode y_MRunner_emits.2.1 138 = .ok (.goto 5, 3) := by decide +kernel
theorem d_MRunner_emits_141 : decode y_MRunner_emits.2.1 141 = .ok (.iload 5, 2) := by decide +kernel
theorem d_MRunner_emits_143 : decode y_MRunner_emits.2.1 143 = .ok (.istore 5, 2) := by decide +kernel
theorem d_MRunner_emits_145 : decode y_MRunner_emits.2.1 145 = .ok (.iinc 6 1, 3) := by decide +kernel
theorem d_MRunner_emits_148 : decode y_MRunner_emits.2.1 148 = .ok (.goto (-112), 3) := by decide +kernel
theorem d_MRunner_emits_151 : decode y_MRunner_emits.2.1 151 = .ok (.aload_n 0, 1) := by decide +kernel
theorem d_MRunner_emits_152 : decode y_MRunner_emits.2.1 152 = .ok (.dup, 1) := by decide +kernel
theorem d_MRunner_emits_153 : decode y_MRunner_emits.2.1 153 = .ok (.getfield 108, 3) := by decide +kernel
theorem d_MRunner_emits_156 : decode y_MRunner_emits.2.1 156 = .ok (.aload_n 0, 1) := by decide +kernel
theorem d_MRunner_emits_157 : decode y_MRunner_emits.2.1 157 = .ok (.getfield 25, 3) := by decide +kernel
theorem d_MRunner_emits_160 : decode y_MRunner_emits.2.1 160 = .ok (.getfield 203, 3) := by decide +kernel
theorem d_MRunner_emits_163 : decode y_MRunner_emits.2.1 163 = .ok (.iload_n 1, 1) := by decide +kernel
theorem d_MRunner_emits_164 : decode y_MRunner_emits.2.1 164 = .ok (.iaload, 1) := by decide +kernel
theorem d_MRunner_emits_165 : decode y_MRunner_emits.2.1 165 = .ok (.ifCond .ne 7, 3) := by decide +kernel
theorem d_MRunner_emits_168 : decode y_MRunner_emits.2.1 168 = .ok (.iconst 3, 1) := by decide +kernel
theorem d_MRunner_emits_169 : decode y_MRunner_emits.2.1 169 = .ok (.goto 4, 3) := by decide +kernel
theorem d_MRunner_emits_172 : decode y_MRunner_emits.2.1 172 = .ok (.iconst 2, 1) := by decide +kernel
theorem d_MRunner_emits_173 : decode y_MRunner_emits.2.1 173 = .ok (.iadd, 1) := by decide +kernel
theorem d_MRunner_emits_174 : decode y_MRunner_emits.2.1 174 = .ok (.putfield 108, 3) := by decide +kernel
theorem d_MRunner_emits_177 : decode y_MRunner_emits.2.1 177 = .ok (.aload_n 0, 1) := by decide +kernel
theorem d_MRunner_emits_178 : decode y_MRunner_emits.2.1 178 = .ok (.getfield 96, 3) := by decide +kernel
theorem d_MRunner_emits_181 : decode y_MRunner_emits.2.1 181 = .ok (.ifCond .le 7, 3) := by decide +kernel
theorem d_MRunner_emits_184 : decode y_MRunner_emits.2.1 184 = .ok (.iconst 0, 1) := by decide +kernel
theorem d_MRunner_emits_185 : decode y_MRunner_emits.2.1 185 = .ok (.goto 7, 3) := by decide +kernel
theorem d_MRunner_emits_188 : decode y_MRunner_emits.2.1 188 = .ok (.aload_n 0, 1) := by decide +kernel
theorem d_MRunner_emits_189 : decode y_MRunner_emits.2.1 189 = .ok (.invokevirtual 137, 3) := by decide +kernel
theorem d_MRunner_emits_192 : decode y_MRunner_emits.2.1 192 = .ok (.istore 6, 2) := by decide +kernel
theorem d_MRunner_emits_194 : decode y_MRunner_emits.2.1 194 = .ok (.aload_n 0, 1) := by decide +kernel
theorem d_MRunner_emits_195 : decode y_MRunner_emits.2.1 195 = .ok (.dup, 1) := by decide +kernel
theorem d_MRunner_emits_196 : decode y_MRunner_emits.2.1 196 = .ok (.getfield 108, 3) := by decide +kernel
theorem d_MRunner_emits_199 : decode y_MRunner_emits.2.1 199 = .ok (.iconst 3, 1) := by decide +kernel
theorem d_MRunner_emits_200 : decode y_MRunner_emits.2.1 200 = .ok (.iadd, 1) := by decide +kernel
theorem d_MRunner_emits_201 : decode y_MRunner_emits.2.1 201 = .ok (.putfield 108, 3) := by decide +kernel
theorem d_MRunner_emits_204 : decode y_MRunner_emits.2.1 204 = .ok (.aload_n 0, 1) := by decide +kernel
theorem d_MRunner_emits_205 : decode y_MRunner_emits.2.1 205 = .ok (.getfield 96, 3) := by decide +kernel
theorem d_MRunner_emits_208 : decode y_MRunner_emits.2.1 208 = .ok (.ifCond .le 7, 3) := by decide +kernel
theorem d_MRunner_emits_211 : decode y_MRunner_emits.2.1 211 = .ok (.iconst 0, 1) := by decide +kernel
theorem d_MRunner_emits_212 : decode y_MRunner_emits.2.1 212 = .ok (.goto 7, 3) := by decide +kernel
theorem d_MRunner_emits_215 : decode y_MRunner_emits.2.1 215 = .ok (.aload_n 0, 1) := by decide +kernel
theorem d_MRunner_emits_216 : decode y_MRunner_emits.2.1 216 = .ok (.invokevirtual 137, 3) := by decide +kernel
theorem d_MRunner_emits_219 : decode y_MRunner_emits.2.1 219 = .ok (.istore 7, 2) := by decide +kernel
theorem d_MRunner_emits_221 : decode y_MRunner_emits.2.1 221 = .ok (.aload_n 0, 1) := by decide +kernel
theorem d_MRunner_emits_222 : decode y_MRunner_emits.2.1 222 = .ok (.dup, 1) := by decide +kernel
theorem d_MRunner_emits_223 : decode y_MRunner_emits.2.1 223 = .ok (.getfield 108, 3) := by decide +kernel
theorem d_MRunner_emits_226 : decode y_MRunner_emits.2.1 226 = .ok (.iconst 2, 1) := by decide +kernel
theorem d_MRunner_emits_227 : decode y_MRunner_emits.2.1 227 = .ok (.iadd, 1) := by decide +kernel
theorem d_MRunner_emits_228 : decode y_MRunner_emits.2.1 228 = .ok (.putfield 108, 3) := by decide +kernel
theorem d_MRunner_emits_231 : decode y_MRunner_emits.2.1 231 = .ok (.aload_n 0, 1) := by decide +kernel
theorem d_MRunner_emits_232 : decode y_MRunner_emits.2.1 232 = .ok (.getfield 96, 3) := by decide +kernel
theorem d_MRunner_emits_235 : decode y_MRunner_emits.2.1 235 = .ok (.ifCond .ne 22, 3) := by decide +kernel
theorem d_MRunner_emits_238 : decode y_MRunner_emits.2.1 238 = .ok (.iload 7, 2) := by decide +kernel
theorem d_MRunner_emits_240 : decode y_MRunner_emits.2.1 240 = .ok (.i2l, 1) := by decide +kernel
theorem d_MRunner_emits_241 : decode y_MRunner_emits.2.1 241 = .ok (.lconst 1, 1) := by decide +kernel
theorem d_MRunner_emits_242 : decode y_MRunner_emits.2.1 242 = .ok (.ldc2_w 209, 3) := by decide +kernel
theorem d_MRunner_emits_245 : decode y_MRunner_emits.2.1 245 = .ok (.invokestatic 211, 3) := by decide +kernel
theorem d_MRunner_emits_248 : decode y_MRunner_emits.2.1 248 = .ok (.ifCond .ne 9, 3) := by decide +kernel
theorem d_MRunner_emits_251 : decode y_MRunner_emits.2.1 251 = .ok (.aload_n 0, 1) := by decide +kernel
theorem d_MRunner_emits_252 : decode y_MRunner_emits.2.1 252 = .ok (.bipush 8, 2) := by decide +kernel
theorem d_MRunner_emits_254 : decode y_MRunner_emits.2.1 254 = .ok (.invokevirtual 118, 3) := by decide +kernel
theorem d_MRunner_emits_257 : decode y_MRunner_emits.2.1 257 = .ok (.aload_n 0, 1) := by decide +kernel
theorem d_MRunner_emits_258 : decode y_MRunner_emits.2.1 258 = .ok (.sipush 227, 3) := by decide +kernel
theorem d_MRunner_emits_261 : decode y_MRunner_emits.2.1 261 = .ok (.invokevirtual 200, 3) := by decide +kernel
theorem d_MRunner_emits_264 : decode y_MRunner_emits.2.1 264 = .ok (.istore 8, 2) := by decide +kernel
theorem d_MRunner_emits_266 : decode y_MRunner_emits.2.1 266 = .ok (.iload 8, 2) := by decide +kernel
theorem d_MRunner_emits_268 : decode y_MRunner_emits.2.1 268 = .ok (.ifCond .ge 4, 3) := by decide +kernel
theorem d_MRunner_emits_271 : decode y_MRunner_emits.2.1 271 = .ok (.return_, 1) := by decide +kernel
theorem d_MRunner_emits_272 : decode y_MRunner_emits.2.1 272 = .ok (.aload_n 0, 1) := by decide +kernel
theorem d_MRunner_emits_273 : decode y_MRunner_emits.2.1 273 = .ok (.getfield 12, 3) := by decide +kernel
theorem d_MRunner_emits_276 : decode y_MRunner_emits.2.1 276 = .ok (.iload 8, 2) := by decide +kernel
theorem d_MRunner_emits_278 : decode y_MRunner_emits.2.1 278 = .ok (.iconst 1, 1) := by decide +kernel
theorem d_MRunner_emits_279 : decode y_MRunner_emits.2.1 279 = .ok (.iadd, 1) := by decide +kernel
theorem d_MRunner_emits_280 : decode y_MRunner_emits.2.1 280 = .ok (.iload_n 1, 1) := by decide +kernel
theorem d_MRunner_emits_281 : decode y_MRunner_emits.2.1 281 = .ok (.iastore, 1) := by decide +kernel
theorem d_MRunner_emits_282 : decode y_MRunner_emits.2.1 282 = .ok (.aload_n 0, 1) := by decide +kernel
theorem d_MRunner_emits_283 : decode y_MRunner_emits.2.1 283 = .ok (.getfield 12, 3) := by decide +kernel
theorem d_MRunner_emits_286 : decode y_MRunner_emits.2.1 286 = .ok (.iload 8, 2) := by decide +kernel
theorem d_MRunner_emits_288 : decode y_MRunner_emits.2.1 288 = .ok (.iconst 2, 1) := by decide +kernel
theorem d_MRunner_emits_289 : decode y_MRunner_emits.2.1 289 = .ok (.iadd, 1) := by decide +kernel
theorem d_MRunner_emits_290 : decode y_MRunner_emits.2.1 290 = .ok (.iload 6, 2) := by decide +kernel
theorem d_MRunner_emits_292 : decode y_MRunner_emits.2.1 292 = .ok (.iastore, 1) := by decide +kernel
theorem d_MRunner_emits_293 : decode y_MRunner_emits.2.1 293 = .ok (.aload_n 0, 1) := by decide +kernel
theorem d_MRunner_emits_294 : decode y_MRunner_emits.2.1 294 = .ok (.getfield 12, 3) := by decide +kernel
theorem d_MRunner_emits_297 : decode y_MRunner_emits.2.1 297 = .ok (.iload 8, 2) := by decide +kernel
theorem d_MRunner_emits_299 : decode y_MRunner_emits.2.1 299 = .ok (.iconst 3, 1) := by decide +kernel
theorem d_MRunner_emits_300 : decode y_MRunner_emits.2.1 300 = .ok (.iadd, 1) := by decide +kernel
theorem d_MRunner_emits_301 : decode y_MRunner_emits.2.1 301 = .ok (.aload_n 0, 1) := by decide +kernel
theorem d_MRunner_emits_302 : decode y_MRunner_emits.2.1 302 = .ok (.getfield 29, 3) := by decide +kernel
theorem d_MRunner_emits_305 : decode y_MRunner_emits.2.1 305 = .ok (.getfield 36, 3) := by decide +kernel
theorem d_MRunner_emits_308 : decode y_MRunner_emits.2.1 308 = .ok (.iload 7, 2) := by decide +kernel
theorem d_MRunner_emits_310 : decode y_MRunner_emits.2.1 310 = .ok (.iadd, 1) := by decide +kernel
theorem d_MRunner_emits_311 : decode y_MRunner_emits.2.1 311 = .ok (.iastore, 1) := by decide +kernel
theorem d_MRunner_emits_312 : decode y_MRunner_emits.2.1 312 = .ok (.aload_n 0, 1) := by decide +kernel
theorem d_MRunner_emits_313 : decode y_MRunner_emits.2.1 313 = .ok (.getfield 12, 3) := by decide +kernel
theorem d_MRunner_emits_316 : decode y_MRunner_emits.2.1 316 = .ok (.iload 8, 2) := by decide +kernel
theorem d_MRunner_emits_318 : decode y_MRunner_emits.2.1 318 = .ok (.iconst 4, 1) := by decide +kernel
theorem d_MRunner_emits_319 : decode y_MRunner_emits.2.1 319 = .ok (.iadd, 1) := by decide +kernel
theorem d_MRunner_emits_320 : decode y_MRunner_emits.2.1 320 = .ok (.iload_n 2, 1) := by decide +kernel
theorem d_MRunner_emits_321 : decode y_MRunner_emits.2.1 321 = .ok (.iastore, 1) := by decide +kernel
theorem d_MRunner_emits_322 : decode y_MRunner_emits.2.1 322 = .ok (.aload_n 0, 1) := by decide +kernel
theorem d_MRunner_emits_323 : decode y_MRunner_emits.2.1 323 = .ok (.getfield 12, 3) := by decide +kernel
theorem d_MRunner_emits_326 : decode y_MRunner_emits.2.1 326 = .ok (.iload 8, 2) := by decide +kernel
theorem d_MRunner_emits_328 : decode y_MRunner_emits.2.1 328 = .ok (.iconst 5, 1) := by decide +kernel
theorem d_MRunner_emits_329 : decode y_MRunner_emits.2.1 329 = .ok (.iadd, 1) := by decide +kernel
theorem d_MRunner_emits_330 : decode y_MRunner_emits.2.1 330 = .ok (.iload_n 3, 1) := by decide +kernel
theorem d_MRunner_emits_331 : decode y_MRunner_emits.2.1 331 = .ok (.iastore, 1) := by decide +kernel
theorem d_MRunner_emits_332 : decode y_MRunner_emits.2.1 332 = .ok (.aload_n 0, 1) := by decide +kernel
theorem d_MRunner_emits_333 : decode y_MRunner_emits.2.1 333 = .ok (.getfield 12, 3) := by decide +kernel
theorem d_MRunner_emits_336 : decode y_MRunner_emits.2.1 336 = .ok (.iload 8, 2) := by decide +kernel
theorem d_MRunner_emits_338 : decode y_MRunner_emits.2.1 338 = .ok (.bipush 6, 2) := by decide +kernel
theorem d_MRunner_emits_340 : decode y_MRunner_emits.2.1 340 = .ok (.iadd, 1) := by decide +kernel
theorem d_MRunner_emits_341 : decode y_MRunner_emits.2.1 341 = .ok (.iload 4, 2) := by decide +kernel
theorem d_MRunner_emits_343 : decode y_MRunner_emits.2.1 343 = .ok (.iastore, 1) := by decide +kernel
theorem d_MRunner_emits_344 : decode y_MRunner_emits.2.1 344 = .ok (.aload_n 0, 1) := by decide +kernel
theorem d_MRunner_emits_345 : decode y_MRunner_emits.2.1 345 = .ok (.getfield 12, 3) := by decide +kernel
theorem d_MRunner_emits_348 : decode y_MRunner_emits.2.1 348 = .ok (.iload 8, 2) := by decide +kernel
theorem d_MRunner_emits_350 : decode y_MRunner_emits.2.1 350 = .ok (.bipush 7, 2) := by decide +kernel
theorem d_MRunner_emits_352 : decode y_MRunner_emits.2.1 352 = .ok (.iadd, 1) := by decide +kernel
theorem d_MRunner_emits_353 : decode y_MRunner_emits.2.1 353 = .ok (.iload 5, 2) := by decide +kernel
theorem d_MRunner_emits_355 : decode y_MRunner_emits.2.1 355 = .ok (.iastore, 1) := by decide +kernel
theorem d_MRunner_emits_356 : decode y_MRunner_emits.2.1 356 = .ok (.return_, 1) := by decide +kernel
theorem s_MRunner_emits : ab_Stat y_MRunner_emits 0 := ⟨(k12 123 rfl rfl), (k1 22 rfl rfl), ⟨by decide, by decide⟩, by decide +kernel⟩
theorem i_MRunner_emits : Cond.instanceMethod y_MRunner_emits.1 ∈ ab_T := (k12 122 rfl rfl)
theorem v_MRunner_emits : Cond.selects "WorldEngineModel$Runner" y_MRunner_emits.1 y_MRunner_emits.1 ∈ ab_T := ab_s (List.mem_of_getElem? (i := 202) rfl) rfl
def B_MRunner_emits_257 (N : Nat) (p0 : Nat) (l1 : Int32) (l2 : Int32) (l3 : Int32) (l4 : Int32) (l5 : Int32) (l6 : Int32) (l7 : Int32) (H : Hp) : Option (Unit × Hp) :=
    ck (H.sh[p0]? = some (15, 0)) <|
    bC (F_MRunner_commanded N p0 (227 : Int32) H) fun v60 H61 =>
    if (0 : Int32) ≤ v60 then
    rf (H61.P p0 3) fun a63 =>
    ar H61 100 a63 fun n65 =>
    ck (inb (v60 + (1 : Int32)) n65) <|
    bnd (H61.sD a63 ((v60 + (1 : Int32))).toNatClampNeg l1) fun H68 =>
    rf (H68.P p0 3) fun a69 =>
    ar H68 100 a69 fun n71 =>
    ck (inb (v60 + (2 : Int32)) n71) <|
    bnd (H68.sD a69 ((v60 + (2 : Int32))).toNatClampNeg l6) fun H74 =>
    rf (H74.P p0 3) fun a75 =>
    rf (H74.P p0 1) fun a77 =>
    ck (H74.sh[a77]? = some (13, 0)) <|
    bnd ((H74.D a77 0)) fun x80 =>
    ar H74 100 a75 fun n81 =>
    ck (inb (v60 + (3 : Int32)) n81) <|
    bnd (H74.sD a75 ((v60 + (3 : Int32))).toNatClampNeg (x80 + l7)) fun H84 =>
    rf (H84.P p0 3) fun a85 =>
    ar H84 100 a85 fun n87 =>
    ck (inb (v60 + (4 : Int32)) n87) <|
    bnd (H84.sD a85 ((v60 + (4 : Int32))).toNatClampNeg l2) fun H90 =>
    rf (H90.P p0 3) fun a91 =>
    ar H90 100 a91 fun n93 =>
    ck (inb (v60 + (5 : Int32)) n93) <|
    bnd (H90.sD a91 ((v60 + (5 : Int32))).toNatClampNeg l3) fun H96 =>
    rf (H96.P p0 3) fun a97 =>
    ar H96 100 a97 fun n99 =>
    ck (inb (v60 + (6 : Int32)) n99) <|
    bnd (H96.sD a97 ((v60 + (6 : Int32))).toNatClampNeg l4) fun H102 =>
    rf (H102.P p0 3) fun a103 =>
    ar H102 100 a103 fun n105 =>
    ck (inb (v60 + (7 : Int32)) n105) <|
    bnd (H102.sD a103 ((v60 + (7 : Int32))).toNatClampNeg l5) fun H108 =>
    some ((), H108)
    else
    some ((), H61)
set_option maxRecDepth 20000 in
set_option maxHeartbeats 2000000 in
theorem mB_MRunner_emits_257 {N : Nat} {p0 : Nat} {l1 : Int32} {l2 : Int32} {l3 : Int32} {l4 : Int32} {l5 : Int32} {l6 : Int32} {l7 : Int32} {H : Hp} {r : Unit × Hp} (hF : B_MRunner_emits_257 N p0 l1 l2 l3 l4 l5 l6 l7 H = some r) : Sa H r.2 := by
  unfold B_MRunner_emits_257 at hF
  have hm := Sa.rf H
  obtain ⟨q109, hG⟩ := ck_s hF; clear hF
  obtain ⟨v111, H112, z110, hF⟩ := bC_s hG; clear hG
  replace hm : Sa H H112 := hm.tr (m_MRunner_commanded z110)
  rcases ite_s hF with ⟨q_16, hG⟩ | ⟨q_16, hG⟩
  · clear hF
    obtain ⟨a114, e115, hF⟩ := rf_s hG; clear hG
    obtain ⟨n116, q117, hG⟩ := ar_s hF; clear hF
    obtain ⟨q118, hF⟩ := ck_s hG; clear hG
    obtain ⟨H119, eH119, hG⟩ := bnd_g hF; clear hF
    replace hm : Sa H H119 := by rw [eH119]; exact hm
    obtain ⟨a120, e121, hF⟩ := rf_s hG; clear hG
    obtain ⟨n122, q123, hG⟩ := ar_s hF; clear hF
    obtain ⟨q124, hF⟩ := ck_s hG; clear hG
    obtain ⟨H125, eH125, hG⟩ := bnd_g hF; clear hF
    replace hm : Sa H H125 := by rw [eH125]; exact hm
    obtain ⟨a126, e127, hF⟩ := rf_s hG; clear hG
    obtain ⟨a128, e129, hG⟩ := rf_s hF; clear hF
    obtain ⟨q130, hF⟩ := ck_s hG; clear hG
    obtain ⟨x131, -, hG⟩ := bnd_g hF; clear hF
    obtain ⟨n132, q133, hF⟩ := ar_s hG; clear hG
    obtain ⟨q134, hG⟩ := ck_s hF; clear hF
    obtain ⟨H135, eH135, hF⟩ := bnd_g hG; clear hG
    replace hm : Sa H H135 := by rw [eH135]; exact hm
    obtain ⟨a136, e137, hG⟩ := rf_s hF; clear hF
    obtain ⟨n138, q139, hF⟩ := ar_s hG; clear hG
    obtain ⟨q140, hG⟩ := ck_s hF; clear hF
    obtain ⟨H141, eH141, hF⟩ := bnd_g hG; clear hG
    replace hm : Sa H H141 := by rw [eH141]; exact hm
    obtain ⟨a142, e143, hG⟩ := rf_s hF; clear hF
    obtain ⟨n144, q145, hF⟩ := ar_s hG; clear hG
    obtain ⟨q146, hG⟩ := ck_s hF; clear hF
    obtain ⟨H147, eH147, hF⟩ := bnd_g hG; clear hG
    replace hm : Sa H H147 := by rw [eH147]; exact hm
    obtain ⟨a148, e149, hG⟩ := rf_s hF; clear hF
    obtain ⟨n150, q151, hF⟩ := ar_s hG; clear hG
    obtain ⟨q152, hG⟩ := ck_s hF; clear hF
    obtain ⟨H153, eH153, hF⟩ := bnd_g hG; clear hG
    replace hm : Sa H H153 := by rw [eH153]; exact hm
    obtain ⟨a154, e155, hG⟩ := rf_s hF; clear hF
    obtain ⟨n156, q157, hF⟩ := ar_s hG; clear hG
    obtain ⟨q158, hG⟩ := ck_s hF; clear hF
    obtain ⟨H159, eH159, hF⟩ := bnd_g hG; clear hG
    replace hm : Sa H H159 := by rw [eH159]; exact hm
    have hr := Option.some.inj hF; subst hr
    exact hm
  · clear hF
    have hr := Option.some.inj hG; subst hr
    exact hm
set_option maxRecDepth 20000 in
set_option maxHeartbeats 2000000 in
theorem kB_MRunner_emits_257 {N : Nat} {p0 : Nat} {l1 : Int32} {l2 : Int32} {l3 : Int32} {l4 : Int32} {l5 : Int32} {l6 : Int32} {l7 : Int32} {H : Hp} {r : Unit × Hp} (hF : B_MRunner_emits_257 N p0 l1 l2 l3 l4 l5 l6 l7 H = some r) : ab_V y_MRunner_emits { frames := 254, cells := 0, slots := 0, locals := 6237 } (po (.returned none) r.2) 0 0 0 0 257 [some (.ref p0), some (.int l1), some (.int l2), some (.int l3), some (.int l4), some (.int l5), some (.int l6), some (.int l7), none] [] (hpw H) := by
  unfold B_MRunner_emits_257 at hF
  refine ab_aload_n d_MRunner_emits_257 rfl rfl rfl ?_
  refine ab_sipush (v := 227) d_MRunner_emits_258 (by decide) ?_
  obtain ⟨q58, hG⟩ := ck_s hF; clear hF
  obtain ⟨v60, H61, z59, hF⟩ := bC_s hG; clear hG
  refine hp_callV_a (v := .int v60) (H1 := H61) (As := [.int 227]) (rest := []) d_MRunner_emits_261 (k_MRunner_commanded z59) (ab_mkC s_MRunner_commanded (Nat.le_of_ble_eq_true rfl) (Nat.le_of_ble_eq_true rfl) (Nat.le_refl 0) (Nat.le_refl 0)) (k12 116 rfl rfl) i_MRunner_commanded v_MRunner_commanded q58 (by decide) rfl rfl (Nat.le_of_ble_eq_true rfl) ?_
  have s_7 : Sa H H61 := (m_MRunner_commanded z59)
  refine ab_istore (lv' := [some (.ref p0), some (.int l1), some (.int l2), some (.int l3), some (.int l4), some (.int l5), some (.int l6), some (.int l7), some (.int v60)]) d_MRunner_emits_264 (by decide) rfl ?_
  refine ab_iload d_MRunner_emits_266 rfl ?_
  refine ab_if_ge (tgt := 272) d_MRunner_emits_268 (by decide) (fun q62 => ?_) (fun q62 => ?_)
  · rw [if_pos q62] at hF
    refine ab_aload_n d_MRunner_emits_272 rfl rfl rfl ?_
    obtain ⟨a63, e64, hG⟩ := rf_s hF; clear hF
    refine hp_getR (f := 3) d_MRunner_emits_273 (by rw [(s_7).1]; exact q58) (by decide) rfl (by decide) (k9 186 rfl rfl) rfl e64 ?_
    refine ab_iload d_MRunner_emits_276 rfl ?_
    refine ab_iconst (v := 1) d_MRunner_emits_278 (by decide) ?_
    refine ab_iadd d_MRunner_emits_279 ?_
    refine ab_iload_n d_MRunner_emits_280 rfl rfl ?_
    obtain ⟨n65, q66, hF⟩ := ar_s hG; clear hG
    rw [(s_7).1] at q66
    obtain ⟨q67, hG⟩ := ck_s hF; clear hF
    refine hp_iast d_MRunner_emits_281 tI (by rw [(s_7).1]; exact q66) q67 ?_
    refine hp_gen (fun H68 eH68 => ?_)
    replace hG := bnd_s eH68 hG
    have s_8 : Sa H H68 := by rw [eH68]; exact s_7
    refine ab_aload_n d_MRunner_emits_282 rfl rfl rfl ?_
    obtain ⟨a69, e70, hF⟩ := rf_s hG; clear hG
    refine hp_getR (f := 3) d_MRunner_emits_283 (by rw [(s_8).1]; exact q58) (by decide) rfl (by decide) (k9 186 rfl rfl) rfl e70 ?_
    refine ab_iload d_MRunner_emits_286 rfl ?_
    refine ab_iconst (v := 2) d_MRunner_emits_288 (by decide) ?_
    refine ab_iadd d_MRunner_emits_289 ?_
    refine ab_iload d_MRunner_emits_290 rfl ?_
    obtain ⟨n71, q72, hG⟩ := ar_s hF; clear hF
    rw [(s_8).1] at q72
    obtain ⟨q73, hF⟩ := ck_s hG; clear hG
    refine hp_iast d_MRunner_emits_292 tI (by rw [(s_8).1]; exact q72) q73 ?_
    refine hp_gen (fun H74 eH74 => ?_)
    replace hF := bnd_s eH74 hF
    have s_9 : Sa H H74 := by rw [eH74]; exact s_8
    refine ab_aload_n d_MRunner_emits_293 rfl rfl rfl ?_
    obtain ⟨a75, e76, hG⟩ := rf_s hF; clear hF
    refine hp_getR (f := 3) d_MRunner_emits_294 (by rw [(s_9).1]; exact q58) (by decide) rfl (by decide) (k9 186 rfl rfl) rfl e76 ?_
    refine ab_iload d_MRunner_emits_297 rfl ?_
    refine ab_iconst (v := 3) d_MRunner_emits_299 (by decide) ?_
    refine ab_iadd d_MRunner_emits_300 ?_
    refine ab_aload_n d_MRunner_emits_301 rfl rfl rfl ?_
    obtain ⟨a77, e78, hF⟩ := rf_s hG; clear hG
    refine hp_getR (f := 1) d_MRunner_emits_302 (by rw [(s_9).1]; exact q58) (by decide) rfl (by decide) (k9 184 rfl rfl) rfl e78 ?_
    obtain ⟨q79, hG⟩ := ck_s hF; clear hF
    rw [(s_9).1] at q79
    refine hp_getIN (f := 0) d_MRunner_emits_305 (by rw [(s_9).1]; exact q79) (by decide) rfl (by decide) (k9 88 rfl rfl) rfl ?_
    refine ab_topi (fun x80 ex80 => ?_)
    replace hG := bnd_s ex80 hG
    refine ab_iload d_MRunner_emits_308 rfl ?_
    refine ab_iadd d_MRunner_emits_310 ?_
    obtain ⟨n81, q82, hF⟩ := ar_s hG; clear hG
    rw [(s_9).1] at q82
    obtain ⟨q83, hG⟩ := ck_s hF; clear hF
    refine hp_iast d_MRunner_emits_311 tI (by rw [(s_9).1]; exact q82) q83 ?_
    refine hp_gen (fun H84 eH84 => ?_)
    replace hG := bnd_s eH84 hG
    have s_10 : Sa H H84 := by rw [eH84]; exact s_9
    refine ab_aload_n d_MRunner_emits_312 rfl rfl rfl ?_
    obtain ⟨a85, e86, hF⟩ := rf_s hG; clear hG
    refine hp_getR (f := 3) d_MRunner_emits_313 (by rw [(s_10).1]; exact q58) (by decide) rfl (by decide) (k9 186 rfl rfl) rfl e86 ?_
    refine ab_iload d_MRunner_emits_316 rfl ?_
    refine ab_iconst (v := 4) d_MRunner_emits_318 (by decide) ?_
    refine ab_iadd d_MRunner_emits_319 ?_
    refine ab_iload_n d_MRunner_emits_320 rfl rfl ?_
    obtain ⟨n87, q88, hG⟩ := ar_s hF; clear hF
    rw [(s_10).1] at q88
    obtain ⟨q89, hF⟩ := ck_s hG; clear hG
    refine hp_iast d_MRunner_emits_321 tI (by rw [(s_10).1]; exact q88) q89 ?_
    refine hp_gen (fun H90 eH90 => ?_)
    replace hF := bnd_s eH90 hF
    have s_11 : Sa H H90 := by rw [eH90]; exact s_10
    refine ab_aload_n d_MRunner_emits_322 rfl rfl rfl ?_
    obtain ⟨a91, e92, hG⟩ := rf_s hF; clear hF
    refine hp_getR (f := 3) d_MRunner_emits_323 (by rw [(s_11).1]; exact q58) (by decide) rfl (by decide) (k9 186 rfl rfl) rfl e92 ?_
    refine ab_iload d_MRunner_emits_326 rfl ?_
    refine ab_iconst (v := 5) d_MRunner_emits_328 (by decide) ?_
    refine ab_iadd d_MRunner_emits_329 ?_
    refine ab_iload_n d_MRunner_emits_330 rfl rfl ?_
    obtain ⟨n93, q94, hF⟩ := ar_s hG; clear hG
    rw [(s_11).1] at q94
    obtain ⟨q95, hG⟩ := ck_s hF; clear hF
    refine hp_iast d_MRunner_emits_331 tI (by rw [(s_11).1]; exact q94) q95 ?_
    refine hp_gen (fun H96 eH96 => ?_)
    replace hG := bnd_s eH96 hG
    have s_12 : Sa H H96 := by rw [eH96]; exact s_11
    refine ab_aload_n d_MRunner_emits_332 rfl rfl rfl ?_
    obtain ⟨a97, e98, hF⟩ := rf_s hG; clear hG
    refine hp_getR (f := 3) d_MRunner_emits_333 (by rw [(s_12).1]; exact q58) (by decide) rfl (by decide) (k9 186 rfl rfl) rfl e98 ?_
    refine ab_iload d_MRunner_emits_336 rfl ?_
    refine ab_bipush (v := 6) d_MRunner_emits_338 (by decide) ?_
    refine ab_iadd d_MRunner_emits_340 ?_
    refine ab_iload d_MRunner_emits_341 rfl ?_
    obtain ⟨n99, q100, hG⟩ := ar_s hF; clear hF
    rw [(s_12).1] at q100
    obtain ⟨q101, hF⟩ := ck_s hG; clear hG
    refine hp_iast d_MRunner_emits_343 tI (by rw [(s_12).1]; exact q100) q101 ?_
    refine hp_gen (fun H102 eH102 => ?_)
    replace hF := bnd_s eH102 hF
    have s_13 : Sa H H102 := by rw [eH102]; exact s_12
    refine ab_aload_n d_MRunner_emits_344 rfl rfl rfl ?_
    obtain ⟨a103, e104, hG⟩ := rf_s hF; clear hF
    refine hp_getR (f := 3) d_MRunner_emits_345 (by rw [(s_13).1]; exact q58) (by decide) rfl (by decide) (k9 186 rfl rfl) rfl e104 ?_
    refine ab_iload d_MRunner_emits_348 rfl ?_
    refine ab_bipush (v := 7) d_MRunner_emits_350 (by decide) ?_
    refine ab_iadd d_MRunner_emits_352 ?_
    refine ab_iload d_MRunner_emits_353 rfl ?_
    obtain ⟨n105, q106, hF⟩ := ar_s hG; clear hG
    rw [(s_13).1] at q106
    obtain ⟨q107, hG⟩ := ck_s hF; clear hF
    refine hp_iast d_MRunner_emits_355 tI (by rw [(s_13).1]; exact q106) q107 ?_
    refine hp_gen (fun H108 eH108 => ?_)
    replace hG := bnd_s eH108 hG
    have s_14 : Sa H H108 := by rw [eH108]; exact s_13
    exact ab_vret d_MRunner_emits_356 rfl (Nat.le_refl _) (Nat.le_refl _) (by have hr := Option.some.inj hG; subst hr; exact ⟨rfl, rfl⟩)
  · rw [if_neg q62] at hF
    exact ab_vret d_MRunner_emits_271 rfl (Nat.le_refl _) (Nat.le_refl _) (by have hr := Option.some.inj hF; subst hr; exact ⟨rfl, rfl⟩)
def B_MRunner_emits_219 (N : Nat) (p0 : Nat) (l1 : Int32) (l2 : Int32) (l3 : Int32) (l4 : Int32) (l5 : Int32) (l6 : Int32) (w0 : Int32) (H : Hp) : Option (Unit × Hp) :=
    ck (H.sh[p0]? = some (15, 0)) <|
    bnd ((H.D p0 11)) fun x54 =>
    bnd (H.sD p0 11 (x54 + (2 : Int32))) fun H55 =>
    bnd ((H55.D p0 10)) fun x56 =>
    if x56 = (0 : Int32) then
    bC (F_M_in N ((w0 : Int32).toInt64) (1 : Int64) (16 : Int64) H55) fun v161 H162 =>
    if v161 = (0 : Int32) then
    bC (F_MRunner_fails N p0 (8 : Int32) H162) fun v165 H166 =>
    B_MRunner_emits_257 N p0 l1 l2 l3 l4 l5 l6 w0 H166
    else
    B_MRunner_emits_257 N p0 l1 l2 l3 l4 l5 l6 w0 H162
    else
    B_MRunner_emits_257 N p0 l1 l2 l3 l4 l5 l6 w0 H55
set_option maxRecDepth 20000 in
set_option maxHeartbeats 2000000 in
theorem mB_MRunner_emits_219 {N : Nat} {p0 : Nat} {l1 : Int32} {l2 : Int32} {l3 : Int32} {l4 : Int32} {l5 : Int32} {l6 : Int32} {w0 : Int32} {H : Hp} {r : Unit × Hp} (hF : B_MRunner_emits_219 N p0 l1 l2 l3 l4 l5 l6 w0 H = some r) : Sa H r.2 := by
  unfold B_MRunner_emits_219 at hF
  have hm := Sa.rf H
  obtain ⟨q167, hG⟩ := ck_s hF; clear hF
  obtain ⟨x168, -, hF⟩ := bnd_g hG; clear hG
  obtain ⟨H169, eH169, hG⟩ := bnd_g hF; clear hF
  replace hm : Sa H H169 := by rw [eH169]; exact hm
  obtain ⟨x170, -, hF⟩ := bnd_g hG; clear hG
  rcases ite_s hF with ⟨q_27, hG⟩ | ⟨q_27, hG⟩
  · clear hF
    obtain ⟨v173, H174, z172, hF⟩ := bC_s hG; clear hG
    replace hm : Sa H H174 := hm.tr (m_M_in z172)
    rcases ite_s hF with ⟨q_29, hG⟩ | ⟨q_29, hG⟩
    · clear hF
      obtain ⟨v177, H178, z176, hF⟩ := bC_s hG; clear hG
      replace hm : Sa H H178 := hm.tr (m_MRunner_fails z176)
      exact hm.tr (mB_MRunner_emits_257 hF)
    · clear hF
      exact hm.tr (mB_MRunner_emits_257 hG)
  · clear hF
    exact hm.tr (mB_MRunner_emits_257 hG)
set_option maxRecDepth 20000 in
set_option maxHeartbeats 2000000 in
theorem kB_MRunner_emits_219 {N : Nat} {p0 : Nat} {l1 : Int32} {l2 : Int32} {l3 : Int32} {l4 : Int32} {l5 : Int32} {l6 : Int32} {w0 : Int32} {H : Hp} {r : Unit × Hp} (hF : B_MRunner_emits_219 N p0 l1 l2 l3 l4 l5 l6 w0 H = some r) : ab_V y_MRunner_emits { frames := 254, cells := 0, slots := 0, locals := 6237 } (po (.returned none) r.2) 0 0 0 0 219 [some (.ref p0), some (.int l1), some (.int l2), some (.int l3), some (.int l4), some (.int l5), some (.int l6), none, none] [.int w0] (hpw H) := by
  unfold B_MRunner_emits_219 at hF
  refine ab_istore (lv' := [some (.ref p0), some (.int l1), some (.int l2), some (.int l3), some (.int l4), some (.int l5), some (.int l6), some (.int w0), none]) d_MRunner_emits_219 (by decide) rfl ?_
  refine ab_aload_n d_MRunner_emits_221 rfl rfl rfl ?_
  refine ab_dup d_MRunner_emits_222 rfl ?_
  obtain ⟨q53, hG⟩ := ck_s hF; clear hF
  refine hp_getI (f := 11) d_MRunner_emits_223 q53 (by decide) rfl (by decide) (k9 194 rfl rfl) rfl ?_
  refine ab_topi (fun x54 ex54 => ?_)
  replace hG := bnd_s ex54 hG
  refine ab_iconst (v := 2) d_MRunner_emits_226 (by decide) ?_
  refine ab_iadd d_MRunner_emits_227 ?_
  refine hp_putI (v := x54 + (2 : Int32)) (f := 11) d_MRunner_emits_228 q53 (by decide) rfl (by decide) (k9 194 rfl rfl) rfl rfl (fun _ => rfl) (fun _ => rfl) rfl ?_
  refine hp_gen (fun H55 eH55 => ?_)
  replace hG := bnd_s eH55 hG
  have s_6 : Sa H H55 := by rw [eH55]; exact Sa.rf _
  refine ab_aload_n d_MRunner_emits_231 rfl rfl rfl ?_
  refine hp_getI (f := 10) d_MRunner_emits_232 (by rw [(s_6).1]; exact q53) (by decide) rfl (by decide) (k9 193 rfl rfl) rfl ?_
  refine ab_topi (fun x56 ex56 => ?_)
  replace hG := bnd_s ex56 hG
  refine ab_if_ne (tgt := 257) d_MRunner_emits_235 (by decide) (fun q57 => ?_) (fun q57 => ?_)
  · rw [if_neg q57] at hG
    exact kB_MRunner_emits_257 hG
  · rw [if_pos q57] at hG
    refine ab_iload d_MRunner_emits_238 rfl ?_
    refine ab_i2l d_MRunner_emits_240 ?_
    refine ab_lconst (v := 1) d_MRunner_emits_241 (by decide) ?_
    refine ab_ldc2 d_MRunner_emits_242 (k12 124 rfl rfl) ?_
    obtain ⟨v161, H162, z160, hF⟩ := bC_s hG; clear hG
    refine hp_callSN_a (v := .int v161) (H1 := H162) (As := [.long ((w0 : Int32).toInt64), .long 1, .long 16]) (rest := []) d_MRunner_emits_245 (k_M_in z160) (ab_mkC s_M_in (Nat.le_of_ble_eq_true rfl) (Nat.le_of_ble_eq_true rfl) (Nat.le_refl 0) (Nat.le_refl 0)) (k12 60 rfl rfl) t_M_in rfl (Nat.le_of_ble_eq_true rfl) ?_
    have s_24 : Sa H H162 := (s_6).tr (m_M_in z160)
    refine ab_if_ne (tgt := 257) d_MRunner_emits_248 (by decide) (fun q163 => ?_) (fun q163 => ?_)
    · rw [if_neg q163] at hF
      exact kB_MRunner_emits_257 hF
    · rw [if_pos q163] at hF
      refine ab_aload_n d_MRunner_emits_251 rfl rfl rfl ?_
      refine ab_bipush (v := 8) d_MRunner_emits_252 (by decide) ?_
      obtain ⟨v165, H166, z164, hG⟩ := bC_s hF; clear hF
      refine hp_callV_v (H1 := H166) (As := [.int 8]) (rest := []) d_MRunner_emits_254 (k_MRunner_fails z164) (ab_mkC s_MRunner_fails (Nat.le_of_ble_eq_true rfl) (Nat.le_of_ble_eq_true rfl) (Nat.le_refl 0) (Nat.le_refl 0)) (k12 2 rfl rfl) i_MRunner_fails v_MRunner_fails (by rw [(s_24).1]; exact q53) (by decide) rfl rfl (Nat.le_of_ble_eq_true rfl) ?_
      have s_25 : Sa H H166 := (s_24).tr (m_MRunner_fails z164)
      exact kB_MRunner_emits_257 hG
def B_MRunner_emits_192 (N : Nat) (p0 : Nat) (l1 : Int32) (l2 : Int32) (l3 : Int32) (l4 : Int32) (l5 : Int32) (w0 : Int32) (H : Hp) : Option (Unit × Hp) :=
    ck (H.sh[p0]? = some (15, 0)) <|
    bnd ((H.D p0 11)) fun x46 =>
    bnd (H.sD p0 11 (x46 + (3 : Int32))) fun H47 =>
    bnd ((H47.D p0 10)) fun x48 =>
    if x48 ≤ (0 : Int32) then
    bC ((X_RunE N 50).1 p0 H47) fun v51 H52 =>
    B_MRunner_emits_219 N p0 l1 l2 l3 l4 l5 w0 v51 H52
    else
    B_MRunner_emits_219 N p0 l1 l2 l3 l4 l5 w0 0 H47
set_option maxRecDepth 20000 in
set_option maxHeartbeats 2000000 in
theorem mB_MRunner_emits_192 {N : Nat} {p0 : Nat} {l1 : Int32} {l2 : Int32} {l3 : Int32} {l4 : Int32} {l5 : Int32} {w0 : Int32} {H : Hp} {r : Unit × Hp} (hF : B_MRunner_emits_192 N p0 l1 l2 l3 l4 l5 w0 H = some r) : Sa H r.2 := by
  unfold B_MRunner_emits_192 at hF
  have hm := Sa.rf H
  obtain ⟨q179, hG⟩ := ck_s hF; clear hF
  obtain ⟨x180, -, hF⟩ := bnd_g hG; clear hG
  obtain ⟨H181, eH181, hG⟩ := bnd_g hF; clear hF
  replace hm : Sa H H181 := by rw [eH181]; exact hm
  obtain ⟨x182, -, hF⟩ := bnd_g hG; clear hG
  rcases ite_s hF with ⟨q_32, hG⟩ | ⟨q_32, hG⟩
  · clear hF
    obtain ⟨v185, H186, z184, hF⟩ := bC_s hG; clear hG
    replace hm : Sa H H186 := hm.tr ((moX_RunE 50).1 _ _ _ z184)
    exact hm.tr (mB_MRunner_emits_219 hF)
  · clear hF
    exact hm.tr (mB_MRunner_emits_219 hG)
set_option maxRecDepth 20000 in
set_option maxHeartbeats 2000000 in
theorem kB_MRunner_emits_192 {N : Nat} {p0 : Nat} {l1 : Int32} {l2 : Int32} {l3 : Int32} {l4 : Int32} {l5 : Int32} {w0 : Int32} {H : Hp} {r : Unit × Hp} (hF : B_MRunner_emits_192 N p0 l1 l2 l3 l4 l5 w0 H = some r) : ab_V y_MRunner_emits { frames := 254, cells := 0, slots := 0, locals := 6237 } (po (.returned none) r.2) 0 0 0 0 192 [some (.ref p0), some (.int l1), some (.int l2), some (.int l3), some (.int l4), some (.int l5), none, none, none] [.int w0] (hpw H) := by
  unfold B_MRunner_emits_192 at hF
  refine ab_istore (lv' := [some (.ref p0), some (.int l1), some (.int l2), some (.int l3), some (.int l4), some (.int l5), some (.int w0), none, none]) d_MRunner_emits_192 (by decide) rfl ?_
  refine ab_aload_n d_MRunner_emits_194 rfl rfl rfl ?_
  refine ab_dup d_MRunner_emits_195 rfl ?_
  obtain ⟨q45, hG⟩ := ck_s hF; clear hF
  refine hp_getI (f := 11) d_MRunner_emits_196 q45 (by decide) rfl (by decide) (k9 194 rfl rfl) rfl ?_
  refine ab_topi (fun x46 ex46 => ?_)
  replace hG := bnd_s ex46 hG
  refine ab_iconst (v := 3) d_MRunner_emits_199 (by decide) ?_
  refine ab_iadd d_MRunner_emits_200 ?_
  refine hp_putI (v := x46 + (3 : Int32)) (f := 11) d_MRunner_emits_201 q45 (by decide) rfl (by decide) (k9 194 rfl rfl) rfl rfl (fun _ => rfl) (fun _ => rfl) rfl ?_
  refine hp_gen (fun H47 eH47 => ?_)
  replace hG := bnd_s eH47 hG
  have s_4 : Sa H H47 := by rw [eH47]; exact Sa.rf _
  refine ab_aload_n d_MRunner_emits_204 rfl rfl rfl ?_
  refine hp_getI (f := 10) d_MRunner_emits_205 (by rw [(s_4).1]; exact q45) (by decide) rfl (by decide) (k9 193 rfl rfl) rfl ?_
  refine ab_topi (fun x48 ex48 => ?_)
  replace hG := bnd_s ex48 hG
  refine ab_if_le (tgt := 215) d_MRunner_emits_208 (by decide) (fun q49 => ?_) (fun q49 => ?_)
  · rw [if_pos q49] at hG
    refine ab_aload_n d_MRunner_emits_215 rfl rfl rfl ?_
    obtain ⟨v51, H52, z50, hF⟩ := bC_s hG; clear hG
    refine hp_callV_a (v := .int v51) (H1 := H52) (As := []) (rest := []) d_MRunner_emits_216 ((okX_RunE 50).2.2.1 _ _ _ z50) (ab_mkC s_MRunner_value (Nat.le_of_ble_eq_true rfl) (Nat.le_of_ble_eq_true rfl) (Nat.le_refl 0) (Nat.le_refl 0)) (k12 10 rfl rfl) i_MRunner_value v_MRunner_value (by rw [(s_4).1]; exact q45) (by decide) rfl rfl (Nat.le_of_ble_eq_true rfl) ?_
    have s_5 : Sa H H52 := (s_4).tr ((moX_RunE 50).1 _ _ _ z50)
    exact kB_MRunner_emits_219 hF
  · rw [if_neg q49] at hG
    refine ab_iconst (v := 0) d_MRunner_emits_211 (by decide) ?_
    refine ab_goto (tgt := 219) d_MRunner_emits_212 (by decide) ?_
    exact kB_MRunner_emits_219 hG
def B_MRunner_emits_173 (N : Nat) (p0 : Nat) (l1 : Int32) (l2 : Int32) (l3 : Int32) (l4 : Int32) (l5 : Int32) (w0 : Nat) (w1 : Int32) (w2 : Int32) (H : Hp) : Option (Unit × Hp) :=
    ck (H.sh[w0]? = some (15, 0)) <|
    bnd (H.sD w0 11 (w1 + w2)) fun H38 =>
    ck (H38.sh[p0]? = some (15, 0)) <|
    bnd ((H38.D p0 10)) fun x40 =>
    if x40 ≤ (0 : Int32) then
    bC ((X_RunE N 50).1 p0 H38) fun v43 H44 =>
    B_MRunner_emits_192 N p0 l1 l2 l3 l4 l5 v43 H44
    else
    B_MRunner_emits_192 N p0 l1 l2 l3 l4 l5 0 H38
set_option maxRecDepth 20000 in
set_option maxHeartbeats 2000000 in
theorem mB_MRunner_emits_173 {N : Nat} {p0 : Nat} {l1 : Int32} {l2 : Int32} {l3 : Int32} {l4 : Int32} {l5 : Int32} {w0 : Nat} {w1 : Int32} {w2 : Int32} {H : Hp} {r : Unit × Hp} (hF : B_MRunner_emits_173 N p0 l1 l2 l3 l4 l5 w0 w1 w2 H = some r) : Sa H r.2 := by
  unfold B_MRunner_emits_173 at hF
  have hm := Sa.rf H
  obtain ⟨q187, hG⟩ := ck_s hF; clear hF
  obtain ⟨H188, eH188, hF⟩ := bnd_g hG; clear hG
  replace hm : Sa H H188 := by rw [eH188]; exact hm
  obtain ⟨q189, hG⟩ := ck_s hF; clear hF
  obtain ⟨x190, -, hF⟩ := bnd_g hG; clear hG
  rcases ite_s hF with ⟨q_35, hG⟩ | ⟨q_35, hG⟩
  · clear hF
    obtain ⟨v193, H194, z192, hF⟩ := bC_s hG; clear hG
    replace hm : Sa H H194 := hm.tr ((moX_RunE 50).1 _ _ _ z192)
    exact hm.tr (mB_MRunner_emits_192 hF)
  · clear hF
    exact hm.tr (mB_MRunner_emits_192 hG)
set_option maxRecDepth 20000 in
set_option maxHeartbeats 2000000 in
theorem kB_MRunner_emits_173 {N : Nat} {p0 : Nat} {l1 : Int32} {l2 : Int32} {l3 : Int32} {l4 : Int32} {l5 : Int32} {w0 : Nat} {w1 : Int32} {w2 : Int32} {H : Hp} {r : Unit × Hp} (hF : B_MRunner_emits_173 N p0 l1 l2 l3 l4 l5 w0 w1 w2 H = some r) : ab_V y_MRunner_emits { frames := 254, cells := 0, slots := 0, locals := 6237 } (po (.returned none) r.2) 0 0 0 0 173 [some (.ref p0), some (.int l1), some (.int l2), some (.int l3), some (.int l4), some (.int l5), none, none, none] [.int w2, .int w1, .ref w0] (hpw H) := by
  unfold B_MRunner_emits_173 at hF
  refine ab_iadd d_MRunner_emits_173 ?_
  obtain ⟨q37, hG⟩ := ck_s hF; clear hF
  refine hp_putI (v := w1 + w2) (f := 11) d_MRunner_emits_174 q37 (by decide) rfl (by decide) (k9 194 rfl rfl) rfl rfl (fun _ => rfl) (fun _ => rfl) rfl ?_
  refine hp_gen (fun H38 eH38 => ?_)
  replace hG := bnd_s eH38 hG
  have s_2 : Sa H H38 := by rw [eH38]; exact Sa.rf _
  refine ab_aload_n d_MRunner_emits_177 rfl rfl rfl ?_
  obtain ⟨q39, hF⟩ := ck_s hG; clear hG
  rw [(s_2).1] at q39
  refine hp_getI (f := 10) d_MRunner_emits_178 (by rw [(s_2).1]; exact q39) (by decide) rfl (by decide) (k9 193 rfl rfl) rfl ?_
  refine ab_topi (fun x40 ex40 => ?_)
  replace hF := bnd_s ex40 hF
  refine ab_if_le (tgt := 188) d_MRunner_emits_181 (by decide) (fun q41 => ?_) (fun q41 => ?_)
  · rw [if_pos q41] at hF
    refine ab_aload_n d_MRunner_emits_188 rfl rfl rfl ?_
    obtain ⟨v43, H44, z42, hG⟩ := bC_s hF; clear hF
    refine hp_callV_a (v := .int v43) (H1 := H44) (As := []) (rest := []) d_MRunner_emits_189 ((okX_RunE 50).2.2.1 _ _ _ z42) (ab_mkC s_MRunner_value (Nat.le_of_ble_eq_true rfl) (Nat.le_of_ble_eq_true rfl) (Nat.le_refl 0) (Nat.le_refl 0)) (k12 10 rfl rfl) i_MRunner_value v_MRunner_value (by rw [(s_2).1]; exact q39) (by decide) rfl rfl (Nat.le_of_ble_eq_true rfl) ?_
    have s_3 : Sa H H44 := (s_2).tr ((moX_RunE 50).1 _ _ _ z42)
    exact kB_MRunner_emits_192 hG
  · rw [if_neg q41] at hF
    refine ab_iconst (v := 0) d_MRunner_emits_184 (by decide) ?_
    refine ab_goto (tgt := 192) d_MRunner_emits_185 (by decide) ?_
    exact kB_MRunner_emits_192 hF
def B_MRunner_emits_151 (N : Nat) (p0 : Nat) (l1 : Int32) (l2 : Int32) (l3 : Int32) (l4 : Int32) (l5 : Int32) (H : Hp) : Option (Unit × Hp) :=
    ck (H.sh[p0]? = some (15, 0)) <|
    bnd ((H.D p0 11)) fun x26 =>
    rf (H.P p0 0) fun a27 =>
    ck (H.sh[a27]? = some (14, 0)) <|
    rf (H.P a27 23) fun a30 =>
    ar H 100 a30 fun n32 =>
    ck (inb l1 n32) <|
    bnd ((H.D a30 (l1).toNatClampNeg)) fun x35 =>
    if x35 = (0 : Int32) then
    B_MRunner_emits_173 N p0 l1 l2 l3 l4 l5 p0 x26 3 H
    else
    B_MRunner_emits_173 N p0 l1 l2 l3 l4 l5 p0 x26 2 H
set_option maxRecDepth 20000 in
set_option maxHeartbeats 2000000 in
theorem mB_MRunner_emits_151 {N : Nat} {p0 : Nat} {l1 : Int32} {l2 : Int32} {l3 : Int32} {l4 : Int32} {l5 : Int32} {H : Hp} {r : Unit × Hp} (hF : B_MRunner_emits_151 N p0 l1 l2 l3 l4 l5 H = some r) : Sa H r.2 := by
  unfold B_MRunner_emits_151 at hF
  have hm := Sa.rf H
  obtain ⟨q195, hG⟩ := ck_s hF; clear hF
  obtain ⟨x196, -, hF⟩ := bnd_g hG; clear hG
  obtain ⟨a197, e198, hG⟩ := rf_s hF; clear hF
  obtain ⟨q199, hF⟩ := ck_s hG; clear hG
  obtain ⟨a200, e201, hG⟩ := rf_s hF; clear hF
  obtain ⟨n202, q203, hF⟩ := ar_s hG; clear hG
  obtain ⟨q204, hG⟩ := ck_s hF; clear hF
  obtain ⟨x205, -, hF⟩ := bnd_g hG; clear hG
  rcases ite_s hF with ⟨q_37, hG⟩ | ⟨q_37, hG⟩
  · clear hF
    exact hm.tr (mB_MRunner_emits_173 hG)
  · clear hF
    exact hm.tr (mB_MRunner_emits_173 hG)
set_option maxRecDepth 20000 in
set_option maxHeartbeats 2000000 in
theorem kB_MRunner_emits_151 {N : Nat} {p0 : Nat} {l1 : Int32} {l2 : Int32} {l3 : Int32} {l4 : Int32} {l5 : Int32} {H : Hp} {r : Unit × Hp} (hF : B_MRunner_emits_151 N p0 l1 l2 l3 l4 l5 H = some r) : ab_V y_MRunner_emits { frames := 254, cells := 0, slots := 0, locals := 6237 } (po (.returned none) r.2) 0 0 0 0 151 [some (.ref p0), some (.int l1), some (.int l2), some (.int l3), some (.int l4), some (.int l5), none, none, none] [] (hpw H) := by
  unfold B_MRunner_emits_151 at hF
  refine ab_aload_n d_MRunner_emits_151 rfl rfl rfl ?_
  refine ab_dup d_MRunner_emits_152 rfl ?_
  obtain ⟨q25, hG⟩ := ck_s hF; clear hF
  refine hp_getI (f := 11) d_MRunner_emits_153 q25 (by decide) rfl (by decide) (k9 194 rfl rfl) rfl ?_
  refine ab_topi (fun x26 ex26 => ?_)
  replace hG := bnd_s ex26 hG
  refine ab_aload_n d_MRunner_emits_156 rfl rfl rfl ?_
  obtain ⟨a27, e28, hF⟩ := rf_s hG; clear hG
  refine hp_getR (f := 0) d_MRunner_emits_157 q25 (by decide) rfl (by decide) (k9 183 rfl rfl) rfl e28 ?_
  obtain ⟨q29, hG⟩ := ck_s hF; clear hF
  obtain ⟨a30, e31, hF⟩ := rf_s hG; clear hG
  refine hp_getRN (f := 23) d_MRunner_emits_160 q29 (by decide) rfl (by decide) (k8 199 rfl rfl) rfl e31 ?_
  refine ab_iload_n d_MRunner_emits_163 rfl rfl ?_
  obtain ⟨n32, q33, hG⟩ := ar_s hF; clear hF
  obtain ⟨q34, hF⟩ := ck_s hG; clear hG
  refine hp_iald d_MRunner_emits_164 tI q33 q34 ?_
  refine ab_topi (fun x35 ex35 => ?_)
  replace hF := bnd_s ex35 hF
  refine ab_if_ne (tgt := 172) d_MRunner_emits_165 (by decide) (fun q36 => ?_) (fun q36 => ?_)
  · rw [if_neg q36] at hF
    refine ab_iconst (v := 2) d_MRunner_emits_172 (by decide) ?_
    exact kB_MRunner_emits_173 hF
  · rw [if_pos q36] at hF
    refine ab_iconst (v := 3) d_MRunner_emits_168 (by decide) ?_
    refine ab_goto (tgt := 173) d_MRunner_emits_169 (by decide) ?_
    exact kB_MRunner_emits_173 hF
def B_MRunner_emits_143 (N : Nat) (p0 : Nat) (kq36 : Int32 → Int32 → Int32 → Int32 → Int32 → Int32 → Hp → Option (Unit × Hp)) (l1 : Int32) (l2 : Int32) (l3 : Int32) (l4 : Int32) (l6 : Int32) (w0 : Int32) (H : Hp) : Option (Unit × Hp) :=
    kq36 l1 l2 l3 l4 w0 (l6 + 1) H
set_option maxRecDepth 20000 in
set_option maxHeartbeats 2000000 in
theorem mB_MRunner_emits_143 {N : Nat} {p0 : Nat} {kq36 : Int32 → Int32 → Int32 → Int32 → Int32 → Int32 → Hp → Option (Unit × Hp)} (hm36 : ∀ (l1 : Int32) (l2 : Int32) (l3 : Int32) (l4 : Int32) (l5 : Int32) (l6 : Int32) (H : Hp) (r : Unit × Hp), kq36 l1 l2 l3 l4 l5 l6 H = some r → Sa H r.2) {l1 : Int32} {l2 : Int32} {l3 : Int32} {l4 : Int32} {l6 : Int32} {w0 : Int32} {H : Hp} {r : Unit × Hp} (hF : B_MRunner_emits_143 N p0 kq36 l1 l2 l3 l4 l6 w0 H = some r) : Sa H r.2 := by
  unfold B_MRunner_emits_143 at hF
  have hm := Sa.rf H
  exact hm.tr (hm36 l1 l2 l3 l4 w0 (l6 + 1) H r hF)
set_option maxRecDepth 20000 in
set_option maxHeartbeats 2000000 in
theorem kB_MRunner_emits_143 {N : Nat} {p0 : Nat} {kq36 : Int32 → Int32 → Int32 → Int32 → Int32 → Int32 → Hp → Option (Unit × Hp)} (hm36 : ∀ (l1 : Int32) (l2 : Int32) (l3 : Int32) (l4 : Int32) (l5 : Int32) (l6 : Int32) (H : Hp) (r : Unit × Hp), kq36 l1 l2 l3 l4 l5 l6 H = some r → Sa H r.2) (hk36 : ∀ (l1 : Int32) (l2 : Int32) (l3 : Int32) (l4 : Int32) (l5 : Int32) (l6 : Int32) (H : Hp) (r : Unit × Hp), kq36 l1 l2 l3 l4 l5 l6 H = some r → ab_V y_MRunner_emits { frames := 254, cells := 0, slots := 0, locals := 6237 } (po (.returned none) r.2) 0 0 0 0 36 [some (.ref p0), some (.int l1), some (.int l2), some (.int l3), some (.int l4), some (.int l5), some (.int l6), none, none] [] (hpw H)) {l1 : Int32} {l2 : Int32} {l3 : Int32} {l4 : Int32} {l6 : Int32} {w0 : Int32} {H : Hp} {r : Unit × Hp} (hF : B_MRunner_emits_143 N p0 kq36 l1 l2 l3 l4 l6 w0 H = some r) : ab_V y_MRunner_emits { frames := 254, cells := 0, slots := 0, locals := 6237 } (po (.returned none) r.2) 0 0 0 0 143 [some (.ref p0), some (.int l1), some (.int l2), some (.int l3), some (.int l4), none, some (.int l6), none, none] [.int w0] (hpw H) := by
  unfold B_MRunner_emits_143 at hF
  refine ab_istore (lv' := [some (.ref p0), some (.int l1), some (.int l2), some (.int l3), some (.int l4), some (.int w0), some (.int l6), none, none]) d_MRunner_emits_143 (by decide) rfl ?_
  refine ab_iinc (v := l6 + 1) (lv' := [some (.ref p0), some (.int l1), some (.int l2), some (.int l3), some (.int l4), some (.int w0), some (.int (l6 + 1)), none, none]) d_MRunner_emits_145 rfl rfl (by decide) rfl ?_
  refine ab_goto (tgt := 36) d_MRunner_emits_148 (by decide) ?_
  exact hk36 l1 l2 l3 l4 w0 (l6 + 1) H r hF
def B_MRunner_emits_128 (N : Nat) (p0 : Nat) (kq36 : Int32 → Int32 → Int32 → Int32 → Int32 → Int32 → Hp → Option (Unit × Hp)) (l1 : Int32) (l2 : Int32) (l3 : Int32) (l5 : Int32) (l6 : Int32) (l7 : Int32) (w0 : Int32) (H : Hp) : Option (Unit × Hp) :=
    if l6 = (3 : Int32) then
    B_MRunner_emits_143 N p0 kq36 l1 l2 l3 w0 l6 l7 H
    else
    B_MRunner_emits_143 N p0 kq36 l1 l2 l3 w0 l6 l5 H
set_option maxRecDepth 20000 in
set_option maxHeartbeats 2000000 in
theorem mB_MRunner_emits_128 {N : Nat} {p0 : Nat} {kq36 : Int32 → Int32 → Int32 → Int32 → Int32 → Int32 → Hp → Option (Unit × Hp)} (hm36 : ∀ (l1 : Int32) (l2 : Int32) (l3 : Int32) (l4 : Int32) (l5 : Int32) (l6 : Int32) (H : Hp) (r : Unit × Hp), kq36 l1 l2 l3 l4 l5 l6 H = some r → Sa H r.2) {l1 : Int32} {l2 : Int32} {l3 : Int32} {l5 : Int32} {l6 : Int32} {l7 : Int32} {w0 : Int32} {H : Hp} {r : Unit × Hp} (hF : B_MRunner_emits_128 N p0 kq36 l1 l2 l3 l5 l6 l7 w0 H = some r) : Sa H r.2 := by
  unfold B_MRunner_emits_128 at hF
  have hm := Sa.rf H
  rcases ite_s hF with ⟨q_41, hG⟩ | ⟨q_41, hG⟩
  · clear hF
    exact hm.tr (mB_MRunner_emits_143 hm36 hG)
  · clear hF
    exact hm.tr (mB_MRunner_emits_143 hm36 hG)
set_option maxRecDepth 20000 in
set_option maxHeartbeats 2000000 in
theorem kB_MRunner_emits_128 {N : Nat} {p0 : Nat} {kq36 : Int32 → Int32 → Int32 → Int32 → Int32 → Int32 → Hp → Option (Unit × Hp)} (hm36 : ∀ (l1 : Int32) (l2 : Int32) (l3 : Int32) (l4 : Int32) (l5 : Int32) (l6 : Int32) (H : Hp) (r : Unit × Hp), kq36 l1 l2 l3 l4 l5 l6 H = some r → Sa H r.2) (hk36 : ∀ (l1 : Int32) (l2 : Int32) (l3 : Int32) (l4 : Int32) (l5 : Int32) (l6 : Int32) (H : Hp) (r : Unit × Hp), kq36 l1 l2 l3 l4 l5 l6 H = some r → ab_V y_MRunner_emits { frames := 254, cells := 0, slots := 0, locals := 6237 } (po (.returned none) r.2) 0 0 0 0 36 [some (.ref p0), some (.int l1), some (.int l2), some (.int l3), some (.int l4), some (.int l5), some (.int l6), none, none] [] (hpw H)) {l1 : Int32} {l2 : Int32} {l3 : Int32} {l5 : Int32} {l6 : Int32} {l7 : Int32} {w0 : Int32} {H : Hp} {r : Unit × Hp} (hF : B_MRunner_emits_128 N p0 kq36 l1 l2 l3 l5 l6 l7 w0 H = some r) : ab_V y_MRunner_emits { frames := 254, cells := 0, slots := 0, locals := 6237 } (po (.returned none) r.2) 0 0 0 0 128 [some (.ref p0), some (.int l1), some (.int l2), some (.int l3), none, some (.int l5), some (.int l6), some (.int l7), none] [.int w0] (hpw H) := by
  unfold B_MRunner_emits_128 at hF
  refine ab_istore (lv' := [some (.ref p0), some (.int l1), some (.int l2), some (.int l3), some (.int w0), some (.int l5), some (.int l6), some (.int l7), none]) d_MRunner_emits_128 (by decide) rfl ?_
  refine ab_iload d_MRunner_emits_130 rfl ?_
  refine ab_iconst (v := 3) d_MRunner_emits_132 (by decide) ?_
  refine ab_icmp_ne (tgt := 141) d_MRunner_emits_133 (by decide) (fun q229 => ?_) (fun q229 => ?_)
  · rw [if_neg q229] at hF
    refine ab_iload d_MRunner_emits_141 rfl ?_
    refine ab_le (lv' := [some (.ref p0), some (.int l1), some (.int l2), some (.int l3), some (.int w0), none, some (.int l6), none, none]) ⟨rfl, ⟨rfl, ⟨rfl, ⟨rfl, ⟨rfl, ⟨rfl, trivial⟩⟩⟩⟩⟩⟩ ?_
    exact kB_MRunner_emits_143 hm36 hk36 hF
  · rw [if_pos q229] at hF
    refine ab_iload d_MRunner_emits_136 rfl ?_
    refine ab_goto (tgt := 143) d_MRunner_emits_138 (by decide) ?_
    refine ab_le (lv' := [some (.ref p0), some (.int l1), some (.int l2), some (.int l3), some (.int w0), none, some (.int l6), none, none]) ⟨rfl, ⟨rfl, ⟨rfl, ⟨rfl, ⟨rfl, ⟨rfl, trivial⟩⟩⟩⟩⟩⟩ ?_
    exact kB_MRunner_emits_143 hm36 hk36 hF
def B_MRunner_emits_114 (N : Nat) (p0 : Nat) (kq36 : Int32 → Int32 → Int32 → Int32 → Int32 → Int32 → Hp → Option (Unit × Hp)) (l1 : Int32) (l2 : Int32) (l4 : Int32) (l5 : Int32) (l6 : Int32) (l7 : Int32) (w0 : Int32) (H : Hp) : Option (Unit × Hp) :=
    if l6 = (2 : Int32) then
    B_MRunner_emits_128 N p0 kq36 l1 l2 w0 l5 l6 l7 l7 H
    else
    B_MRunner_emits_128 N p0 kq36 l1 l2 w0 l5 l6 l7 l4 H
set_option maxRecDepth 20000 in
set_option maxHeartbeats 2000000 in
theorem mB_MRunner_emits_114 {N : Nat} {p0 : Nat} {kq36 : Int32 → Int32 → Int32 → Int32 → Int32 → Int32 → Hp → Option (Unit × Hp)} (hm36 : ∀ (l1 : Int32) (l2 : Int32) (l3 : Int32) (l4 : Int32) (l5 : Int32) (l6 : Int32) (H : Hp) (r : Unit × Hp), kq36 l1 l2 l3 l4 l5 l6 H = some r → Sa H r.2) {l1 : Int32} {l2 : Int32} {l4 : Int32} {l5 : Int32} {l6 : Int32} {l7 : Int32} {w0 : Int32} {H : Hp} {r : Unit × Hp} (hF : B_MRunner_emits_114 N p0 kq36 l1 l2 l4 l5 l6 l7 w0 H = some r) : Sa H r.2 := by
  unfold B_MRunner_emits_114 at hF
  have hm := Sa.rf H
  rcases ite_s hF with ⟨q_42, hG⟩ | ⟨q_42, hG⟩
  · clear hF
    exact hm.tr (mB_MRunner_emits_128 hm36 hG)
  · clear hF
    exact hm.tr (mB_MRunner_emits_128 hm36 hG)
set_option maxRecDepth 20000 in
set_option maxHeartbeats 2000000 in
theorem kB_MRunner_emits_114 {N : Nat} {p0 : Nat} {kq36 : Int32 → Int32 → Int32 → Int32 → Int32 → Int32 → Hp → Option (Unit × Hp)} (hm36 : ∀ (l1 : Int32) (l2 : Int32) (l3 : Int32) (l4 : Int32) (l5 : Int32) (l6 : Int32) (H : Hp) (r : Unit × Hp), kq36 l1 l2 l3 l4 l5 l6 H = some r → Sa H r.2) (hk36 : ∀ (l1 : Int32) (l2 : Int32) (l3 : Int32) (l4 : Int32) (l5 : Int32) (l6 : Int32) (H : Hp) (r : Unit × Hp), kq36 l1 l2 l3 l4 l5 l6 H = some r → ab_V y_MRunner_emits { frames := 254, cells := 0, slots := 0, locals := 6237 } (po (.returned none) r.2) 0 0 0 0 36 [some (.ref p0), some (.int l1), some (.int l2), some (.int l3), some (.int l4), some (.int l5), some (.int l6), none, none] [] (hpw H)) {l1 : Int32} {l2 : Int32} {l4 : Int32} {l5 : Int32} {l6 : Int32} {l7 : Int32} {w0 : Int32} {H : Hp} {r : Unit × Hp} (hF : B_MRunner_emits_114 N p0 kq36 l1 l2 l4 l5 l6 l7 w0 H = some r) : ab_V y_MRunner_emits { frames := 254, cells := 0, slots := 0, locals := 6237 } (po (.returned none) r.2) 0 0 0 0 114 [some (.ref p0), some (.int l1), some (.int l2), none, some (.int l4), some (.int l5), some (.int l6), some (.int l7), none] [.int w0] (hpw H) := by
  unfold B_MRunner_emits_114 at hF
  refine ab_istore_n (lv' := [some (.ref p0), some (.int l1), some (.int l2), some (.int w0), some (.int l4), some (.int l5), some (.int l6), some (.int l7), none]) d_MRunner_emits_114 rfl (by decide) rfl ?_
  refine ab_iload d_MRunner_emits_115 rfl ?_
  refine ab_iconst (v := 2) d_MRunner_emits_117 (by decide) ?_
  refine ab_icmp_ne (tgt := 126) d_MRunner_emits_118 (by decide) (fun q228 => ?_) (fun q228 => ?_)
  · rw [if_neg q228] at hF
    refine ab_iload d_MRunner_emits_126 rfl ?_
    refine ab_le (lv' := [some (.ref p0), some (.int l1), some (.int l2), some (.int w0), none, some (.int l5), some (.int l6), some (.int l7), none]) ⟨rfl, ⟨rfl, ⟨rfl, ⟨rfl, ⟨rfl, ⟨rfl, ⟨rfl, trivial⟩⟩⟩⟩⟩⟩⟩ ?_
    exact kB_MRunner_emits_128 hm36 hk36 hF
  · rw [if_pos q228] at hF
    refine ab_iload d_MRunner_emits_121 rfl ?_
    refine ab_goto (tgt := 128) d_MRunner_emits_123 (by decide) ?_
    refine ab_le (lv' := [some (.ref p0), some (.int l1), some (.int l2), some (.int w0), none, some (.int l5), some (.int l6), some (.int l7), none]) ⟨rfl, ⟨rfl, ⟨rfl, ⟨rfl, ⟨rfl, ⟨rfl, ⟨rfl, trivial⟩⟩⟩⟩⟩⟩⟩ ?_
    exact kB_MRunner_emits_128 hm36 hk36 hF
def B_MRunner_emits_101 (N : Nat) (p0 : Nat) (kq36 : Int32 → Int32 → Int32 → Int32 → Int32 → Int32 → Hp → Option (Unit × Hp)) (l1 : Int32) (l3 : Int32) (l4 : Int32) (l5 : Int32) (l6 : Int32) (l7 : Int32) (w0 : Int32) (H : Hp) : Option (Unit × Hp) :=
    if l6 = (1 : Int32) then
    B_MRunner_emits_114 N p0 kq36 l1 w0 l4 l5 l6 l7 l7 H
    else
    B_MRunner_emits_114 N p0 kq36 l1 w0 l4 l5 l6 l7 l3 H
set_option maxRecDepth 20000 in
set_option maxHeartbeats 2000000 in
theorem mB_MRunner_emits_101 {N : Nat} {p0 : Nat} {kq36 : Int32 → Int32 → Int32 → Int32 → Int32 → Int32 → Hp → Option (Unit × Hp)} (hm36 : ∀ (l1 : Int32) (l2 : Int32) (l3 : Int32) (l4 : Int32) (l5 : Int32) (l6 : Int32) (H : Hp) (r : Unit × Hp), kq36 l1 l2 l3 l4 l5 l6 H = some r → Sa H r.2) {l1 : Int32} {l3 : Int32} {l4 : Int32} {l5 : Int32} {l6 : Int32} {l7 : Int32} {w0 : Int32} {H : Hp} {r : Unit × Hp} (hF : B_MRunner_emits_101 N p0 kq36 l1 l3 l4 l5 l6 l7 w0 H = some r) : Sa H r.2 := by
  unfold B_MRunner_emits_101 at hF
  have hm := Sa.rf H
  rcases ite_s hF with ⟨q_43, hG⟩ | ⟨q_43, hG⟩
  · clear hF
    exact hm.tr (mB_MRunner_emits_114 hm36 hG)
  · clear hF
    exact hm.tr (mB_MRunner_emits_114 hm36 hG)
set_option maxRecDepth 20000 in
set_option maxHeartbeats 2000000 in
theorem kB_MRunner_emits_101 {N : Nat} {p0 : Nat} {kq36 : Int32 → Int32 → Int32 → Int32 → Int32 → Int32 → Hp → Option (Unit × Hp)} (hm36 : ∀ (l1 : Int32) (l2 : Int32) (l3 : Int32) (l4 : Int32) (l5 : Int32) (l6 : Int32) (H : Hp) (r : Unit × Hp), kq36 l1 l2 l3 l4 l5 l6 H = some r → Sa H r.2) (hk36 : ∀ (l1 : Int32) (l2 : Int32) (l3 : Int32) (l4 : Int32) (l5 : Int32) (l6 : Int32) (H : Hp) (r : Unit × Hp), kq36 l1 l2 l3 l4 l5 l6 H = some r → ab_V y_MRunner_emits { frames := 254, cells := 0, slots := 0, locals := 6237 } (po (.returned none) r.2) 0 0 0 0 36 [some (.ref p0), some (.int l1), some (.int l2), some (.int l3), some (.int l4), some (.int l5), some (.int l6), none, none] [] (hpw H)) {l1 : Int32} {l3 : Int32} {l4 : Int32} {l5 : Int32} {l6 : Int32} {l7 : Int32} {w0 : Int32} {H : Hp} {r : Unit × Hp} (hF : B_MRunner_emits_101 N p0 kq36 l1 l3 l4 l5 l6 l7 w0 H = some r) : ab_V y_MRunner_emits { frames := 254, cells := 0, slots := 0, locals := 6237 } (po (.returned none) r.2) 0 0 0 0 101 [some (.ref p0), some (.int l1), none, some (.int l3), some (.int l4), some (.int l5), some (.int l6), some (.int l7), none] [.int w0] (hpw H) := by
  unfold B_MRunner_emits_101 at hF
  refine ab_istore_n (lv' := [some (.ref p0), some (.int l1), some (.int w0), some (.int l3), some (.int l4), some (.int l5), some (.int l6), some (.int l7), none]) d_MRunner_emits_101 rfl (by decide) rfl ?_
  refine ab_iload d_MRunner_emits_102 rfl ?_
  refine ab_iconst (v := 1) d_MRunner_emits_104 (by decide) ?_
  refine ab_icmp_ne (tgt := 113) d_MRunner_emits_105 (by decide) (fun q227 => ?_) (fun q227 => ?_)
  · rw [if_neg q227] at hF
    refine ab_iload_n d_MRunner_emits_113 rfl rfl ?_
    refine ab_le (lv' := [some (.ref p0), some (.int l1), some (.int w0), none, some (.int l4), some (.int l5), some (.int l6), some (.int l7), none]) ⟨rfl, ⟨rfl, ⟨rfl, ⟨rfl, ⟨rfl, ⟨rfl, ⟨rfl, trivial⟩⟩⟩⟩⟩⟩⟩ ?_
    exact kB_MRunner_emits_114 hm36 hk36 hF
  · rw [if_pos q227] at hF
    refine ab_iload d_MRunner_emits_108 rfl ?_
    refine ab_goto (tgt := 114) d_MRunner_emits_110 (by decide) ?_
    refine ab_le (lv' := [some (.ref p0), some (.int l1), some (.int w0), none, some (.int l4), some (.int l5), some (.int l6), some (.int l7), none]) ⟨rfl, ⟨rfl, ⟨rfl, ⟨rfl, ⟨rfl, ⟨rfl, ⟨rfl, trivial⟩⟩⟩⟩⟩⟩⟩ ?_
    exact kB_MRunner_emits_114 hm36 hk36 hF
def B_MRunner_emits_36 (N : Nat) (p0 : Nat) : Nat → Int32 → Int32 → Int32 → Int32 → Int32 → Int32 → Hp → Option (Unit × Hp)
  | 0, _, _, _, _, _, _, _ => none
  | n + 1, l1, l2, l3, l4, l5, l6, H =>
    ck (H.sh[p0]? = some (15, 0)) <|
    rf (H.P p0 0) fun a15 =>
    ck (H.sh[a15]? = some (14, 0)) <|
    rf (H.P a15 23) fun a18 =>
    ar H 100 a18 fun n20 =>
    ck (inb l1 n20) <|
    bnd ((H.D a18 (l1).toNatClampNeg)) fun x23 =>
    if x23 ≤ l6 then
    B_MRunner_emits_151 N p0 l1 l2 l3 l4 l5 H
    else
    bnd ((H.D p0 10)) fun x207 =>
    if x207 = (0 : Int32) then
    rf (H.P p0 0) fun a209 =>
    ck (H.sh[a209]? = some (14, 0)) <|
    rf (H.P a209 24) fun a212 =>
    ar H 100 a212 fun n214 =>
    ck (inb (((4 : Int32) * l1) + l6) n214) <|
    bnd ((H.D a212 ((((4 : Int32) * l1) + l6)).toNatClampNeg)) fun x217 =>
    bC ((X_RunE N 50).1 p0 H) fun v219 H220 =>
    bC (F_MRunner_given N x217 v219 H220) fun v222 H223 =>
    bnd ((H223.D p0 11)) fun x224 =>
    bnd (H223.sD p0 11 (x224 + (1 : Int32))) fun H225 =>
    if l6 = (0 : Int32) then
    B_MRunner_emits_101 N p0 (fun l1 l2 l3 l4 l5 l6 H => B_MRunner_emits_36 N p0 n l1 l2 l3 l4 l5 l6 H) l1 l3 l4 l5 l6 v222 v222 H225
    else
    B_MRunner_emits_101 N p0 (fun l1 l2 l3 l4 l5 l6 H => B_MRunner_emits_36 N p0 n l1 l2 l3 l4 l5 l6 H) l1 l3 l4 l5 l6 v222 l2 H225
    else
    B_MRunner_emits_151 N p0 l1 l2 l3 l4 l5 H
termination_by structural n => n
set_option maxRecDepth 20000 in
set_option maxHeartbeats 2000000 in
theorem mB_MRunner_emits_36 {N : Nat} {p0 : Nat} : ∀ (n : Nat) (l1 : Int32) (l2 : Int32) (l3 : Int32) (l4 : Int32) (l5 : Int32) (l6 : Int32) (H : Hp) (r : Unit × Hp), B_MRunner_emits_36 N p0 n l1 l2 l3 l4 l5 l6 H = some r → Sa H r.2 := by
  intro n
  induction n with
  | zero => intro l1 l2 l3 l4 l5 l6 H r hF; rw [B_MRunner_emits_36] at hF; cases hF
  | succ n ih =>
    intro l1 l2 l3 l4 l5 l6 H r hF
    rw [B_MRunner_emits_36] at hF
    have hm := Sa.rf H
    obtain ⟨q233, hG⟩ := ck_s hF; clear hF
    obtain ⟨a234, e235, hF⟩ := rf_s hG; clear hG
    obtain ⟨q236, hG⟩ := ck_s hF; clear hF
    obtain ⟨a237, e238, hF⟩ := rf_s hG; clear hG
    obtain ⟨n239, q240, hG⟩ := ar_s hF; clear hF
    obtain ⟨q241, hF⟩ := ck_s hG; clear hG
    obtain ⟨x242, -, hG⟩ := bnd_g hF; clear hF
    rcases ite_s hG with ⟨q_44, hF⟩ | ⟨q_44, hF⟩
    · clear hG
      exact hm.tr (mB_MRunner_emits_151 hF)
    · clear hG
      obtain ⟨x244, -, hG⟩ := bnd_g hF; clear hF
      rcases ite_s hG with ⟨q_45, hF⟩ | ⟨q_45, hF⟩
      · clear hG
        obtain ⟨a246, e247, hG⟩ := rf_s hF; clear hF
        obtain ⟨q248, hF⟩ := ck_s hG; clear hG
        obtain ⟨a249, e250, hG⟩ := rf_s hF; clear hF
        obtain ⟨n251, q252, hF⟩ := ar_s hG; clear hG
        obtain ⟨q253, hG⟩ := ck_s hF; clear hF
        obtain ⟨x254, -, hF⟩ := bnd_g hG; clear hG
        obtain ⟨v256, H257, z255, hG⟩ := bC_s hF; clear hF
        replace hm : Sa H H257 := hm.tr ((moX_RunE 50).1 _ _ _ z255)
        obtain ⟨v259, H260, z258, hF⟩ := bC_s hG; clear hG
        replace hm : Sa H H260 := hm.tr (m_MRunner_given z258)
        obtain ⟨x261, -, hG⟩ := bnd_g hF; clear hF
        obtain ⟨H262, eH262, hF⟩ := bnd_g hG; clear hG
        replace hm : Sa H H262 := by rw [eH262]; exact hm
        rcases ite_s hF with ⟨q_49, hG⟩ | ⟨q_49, hG⟩
        · clear hF
          exact hm.tr (mB_MRunner_emits_101 ih hG)
        · clear hF
          exact hm.tr (mB_MRunner_emits_101 ih hG)
      · clear hG
        exact hm.tr (mB_MRunner_emits_151 hF)
set_option maxRecDepth 20000 in
set_option maxHeartbeats 2000000 in
theorem kB_MRunner_emits_36 {N : Nat} {p0 : Nat} : ∀ (n : Nat) (l1 : Int32) (l2 : Int32) (l3 : Int32) (l4 : Int32) (l5 : Int32) (l6 : Int32) (H : Hp) (r : Unit × Hp), B_MRunner_emits_36 N p0 n l1 l2 l3 l4 l5 l6 H = some r → ab_V y_MRunner_emits { frames := 254, cells := 0, slots := 0, locals := 6237 } (po (.returned none) r.2) 0 0 0 0 36 [some (.ref p0), some (.int l1), some (.int l2), some (.int l3), some (.int l4), some (.int l5), some (.int l6), none, none] [] (hpw H) := by
  intro n
  induction n with
  | zero => intro l1 l2 l3 l4 l5 l6 H r hF; rw [B_MRunner_emits_36] at hF; cases hF
  | succ n ih =>
    intro l1 l2 l3 l4 l5 l6 H r hF
    rw [B_MRunner_emits_36] at hF
    refine ab_iload d_MRunner_emits_36 rfl ?_
    refine ab_aload_n d_MRunner_emits_38 rfl rfl rfl ?_
    obtain ⟨q14, hG⟩ := ck_s hF; clear hF
    obtain ⟨a15, e16, hF⟩ := rf_s hG; clear hG
    refine hp_getR (f := 0) d_MRunner_emits_39 q14 (by decide) rfl (by decide) (k9 183 rfl rfl) rfl e16 ?_
    obtain ⟨q17, hG⟩ := ck_s hF; clear hF
    obtain ⟨a18, e19, hF⟩ := rf_s hG; clear hG
    refine hp_getRN (f := 23) d_MRunner_emits_42 q17 (by decide) rfl (by decide) (k8 199 rfl rfl) rfl e19 ?_
    refine ab_iload_n d_MRunner_emits_45 rfl rfl ?_
    obtain ⟨n20, q21, hG⟩ := ar_s hF; clear hF
    obtain ⟨q22, hF⟩ := ck_s hG; clear hG
    refine hp_iald d_MRunner_emits_46 tI q21 q22 ?_
    refine ab_topi (fun x23 ex23 => ?_)
    replace hF := bnd_s ex23 hF
    refine ab_icmp_ge (tgt := 151) d_MRunner_emits_47 (by decide) (fun q24 => ?_) (fun q24 => ?_)
    · rw [if_pos q24] at hF
      refine ab_le (lv' := [some (.ref p0), some (.int l1), some (.int l2), some (.int l3), some (.int l4), some (.int l5), none, none, none]) ⟨rfl, ⟨rfl, ⟨rfl, ⟨rfl, ⟨rfl, ⟨rfl, trivial⟩⟩⟩⟩⟩⟩ ?_
      exact kB_MRunner_emits_151 hF
    · rw [if_neg q24] at hF
      refine ab_aload_n d_MRunner_emits_50 rfl rfl rfl ?_
      refine hp_getI (f := 10) d_MRunner_emits_51 q14 (by decide) rfl (by decide) (k9 193 rfl rfl) rfl ?_
      refine ab_topi (fun x207 ex207 => ?_)
      replace hF := bnd_s ex207 hF
      refine ab_if_ne (tgt := 151) d_MRunner_emits_54 (by decide) (fun q208 => ?_) (fun q208 => ?_)
      · rw [if_neg q208] at hF
        refine ab_le (lv' := [some (.ref p0), some (.int l1), some (.int l2), some (.int l3), some (.int l4), some (.int l5), none, none, none]) ⟨rfl, ⟨rfl, ⟨rfl, ⟨rfl, ⟨rfl, ⟨rfl, trivial⟩⟩⟩⟩⟩⟩ ?_
        exact kB_MRunner_emits_151 hF
      · rw [if_pos q208] at hF
        refine ab_aload_n d_MRunner_emits_57 rfl rfl rfl ?_
        obtain ⟨a209, e210, hG⟩ := rf_s hF; clear hF
        refine hp_getR (f := 0) d_MRunner_emits_58 q14 (by decide) rfl (by decide) (k9 183 rfl rfl) rfl e210 ?_
        obtain ⟨q211, hF⟩ := ck_s hG; clear hG
        obtain ⟨a212, e213, hG⟩ := rf_s hF; clear hF
        refine hp_getRN (f := 24) d_MRunner_emits_61 q211 (by decide) rfl (by decide) (k8 202 rfl rfl) rfl e213 ?_
        refine ab_iconst (v := 4) d_MRunner_emits_64 (by decide) ?_
        refine ab_iload_n d_MRunner_emits_65 rfl rfl ?_
        refine ab_imul d_MRunner_emits_66 ?_
        refine ab_iload d_MRunner_emits_67 rfl ?_
        refine ab_iadd d_MRunner_emits_69 ?_
        obtain ⟨n214, q215, hF⟩ := ar_s hG; clear hG
        obtain ⟨q216, hG⟩ := ck_s hF; clear hF
        refine hp_iald d_MRunner_emits_70 tI q215 q216 ?_
        refine ab_topi (fun x217 ex217 => ?_)
        replace hG := bnd_s ex217 hG
        refine ab_aload_n d_MRunner_emits_71 rfl rfl rfl ?_
        obtain ⟨v219, H220, z218, hF⟩ := bC_s hG; clear hG
        refine hp_callV_a (v := .int v219) (H1 := H220) (As := []) (rest := [.int x217]) d_MRunner_emits_72 ((okX_RunE 50).2.2.1 _ _ _ z218) (ab_mkC s_MRunner_value (Nat.le_of_ble_eq_true rfl) (Nat.le_of_ble_eq_true rfl) (Nat.le_refl 0) (Nat.le_refl 0)) (k12 10 rfl rfl) i_MRunner_value v_MRunner_value q14 (by decide) rfl rfl (Nat.le_of_ble_eq_true rfl) ?_
        have s_38 : Sa H H220 := ((moX_RunE 50).1 _ _ _ z218)
        obtain ⟨v222, H223, z221, hG⟩ := bC_s hF; clear hF
        refine hp_callS_a (v := .int v222) (H1 := H223) (As := [.int x217, .int v219]) (rest := []) d_MRunner_emits_75 (k_MRunner_given z221) (ab_mkC s_MRunner_given (Nat.le_of_ble_eq_true rfl) (Nat.le_of_ble_eq_true rfl) (Nat.le_refl 0) (Nat.le_refl 0)) (k12 85 rfl rfl) t_MRunner_given rfl (Nat.le_of_ble_eq_true rfl) ?_
        have s_39 : Sa H H223 := (s_38).tr (m_MRunner_given z221)
        refine ab_istore (lv' := [some (.ref p0), some (.int l1), some (.int l2), some (.int l3), some (.int l4), some (.int l5), some (.int l6), some (.int v222), none]) d_MRunner_emits_78 (by decide) rfl ?_
        refine ab_aload_n d_MRunner_emits_80 rfl rfl rfl ?_
        refine ab_dup d_MRunner_emits_81 rfl ?_
        refine hp_getI (f := 11) d_MRunner_emits_82 (by rw [(s_39).1]; exact q14) (by decide) rfl (by decide) (k9 194 rfl rfl) rfl ?_
        refine ab_topi (fun x224 ex224 => ?_)
        replace hG := bnd_s ex224 hG
        refine ab_iconst (v := 1) d_MRunner_emits_85 (by decide) ?_
        refine ab_iadd d_MRunner_emits_86 ?_
        refine hp_putI (v := x224 + (1 : Int32)) (f := 11) d_MRunner_emits_87 (by rw [(s_39).1]; exact q14) (by decide) rfl (by decide) (k9 194 rfl rfl) rfl rfl (fun _ => rfl) (fun _ => rfl) rfl ?_
        refine hp_gen (fun H225 eH225 => ?_)
        replace hG := bnd_s eH225 hG
        have s_40 : Sa H H225 := by rw [eH225]; exact s_39
        refine ab_iload d_MRunner_emits_90 rfl ?_
        refine ab_if_ne (tgt := 100) d_MRunner_emits_92 (by decide) (fun q226 => ?_) (fun q226 => ?_)
        · rw [if_neg q226] at hG
          refine ab_iload_n d_MRunner_emits_100 rfl rfl ?_
          refine ab_le (lv' := [some (.ref p0), some (.int l1), none, some (.int l3), some (.int l4), some (.int l5), some (.int l6), some (.int v222), none]) ⟨rfl, ⟨rfl, ⟨rfl, ⟨rfl, ⟨rfl, ⟨rfl, ⟨rfl, trivial⟩⟩⟩⟩⟩⟩⟩ ?_
          exact kB_MRunner_emits_101 (mB_MRunner_emits_36 n) ih hG
        · rw [if_pos q226] at hG
          refine ab_iload d_MRunner_emits_95 rfl ?_
          refine ab_goto (tgt := 101) d_MRunner_emits_97 (by decide) ?_
          refine ab_le (lv' := [some (.ref p0), some (.int l1), none, some (.int l3), some (.int l4), some (.int l5), some (.int l6), some (.int v222), none]) ⟨rfl, ⟨rfl, ⟨rfl, ⟨rfl, ⟨rfl, ⟨rfl, ⟨rfl, trivial⟩⟩⟩⟩⟩⟩⟩ ?_
          exact kB_MRunner_emits_101 (mB_MRunner_emits_36 n) ih hG
def F_MRunner_emits (N : Nat) (p0 : Nat) (H : Hp) : Option (Unit × Hp) :=
    ck (H.sh[p0]? = some (15, 0)) <|
    rf (H.P p0 0) fun a2 =>
    ck (H.sh[a2]? = some (14, 0)) <|
    rf (H.P a2 8) fun a5 =>
    bnd ((H.D p0 11)) fun x7 =>
    ar H 100 a5 fun n8 =>
    ck (inb x7 n8) <|
    bnd ((H.D a5 (x7).toNatClampNeg)) fun x11 =>
    bnd ((H.D p0 11)) fun x12 =>
    bnd (H.sD p0 11 (x12 + (2 : Int32))) fun H13 =>
    B_MRunner_emits_36 N p0 N x11 0 0 0 0 0 H13
set_option maxRecDepth 20000 in
set_option maxHeartbeats 2000000 in
theorem m_MRunner_emits {N : Nat} {p0 : Nat} {H : Hp} {r : Unit × Hp} (hF : F_MRunner_emits N p0 H = some r) : Sa H r.2 := by
  unfold F_MRunner_emits at hF
  have hm := Sa.rf H
  obtain ⟨q264, hG⟩ := ck_s hF; clear hF
  obtain ⟨a265, e266, hF⟩ := rf_s hG; clear hG
  obtain ⟨q267, hG⟩ := ck_s hF; clear hF
  obtain ⟨a268, e269, hF⟩ := rf_s hG; clear hG
  obtain ⟨x270, -, hG⟩ := bnd_g hF; clear hF
  obtain ⟨n271, q272, hF⟩ := ar_s hG; clear hG
  obtain ⟨q273, hG⟩ := ck_s hF; clear hF
  obtain ⟨x274, -, hF⟩ := bnd_g hG; clear hG
  obtain ⟨x275, -, hG⟩ := bnd_g hF; clear hF
  obtain ⟨H276, eH276, hF⟩ := bnd_g hG; clear hG
  replace hm : Sa H H276 := by rw [eH276]; exact hm
  exact hm.tr (mB_MRunner_emits_36 N x274 0 0 0 0 0 H276 r hF)
set_option maxRecDepth 20000 in
set_option maxHeartbeats 2000000 in
theorem k_MRunner_emits {N : Nat} {p0 : Nat} {H : Hp} {r : Unit × Hp} (hF : F_MRunner_emits N p0 H = some r) : ab_M y_MRunner_emits { frames := 254, cells := 0, slots := 0, locals := 6237 } [.ref p0] (hpw H) (po (.returned none) r.2) := by
  unfold F_MRunner_emits at hF
  refine ab_of2 (lv := [some (.ref p0), none, none, none, none, none, none, none, none]) 8 rfl rfl (Nat.le_of_ble_eq_true rfl) ?_
  refine ab_aload_n d_MRunner_emits_0 rfl rfl rfl ?_
  obtain ⟨q1, hG⟩ := ck_s hF; clear hF
  obtain ⟨a2, e3, hF⟩ := rf_s hG; clear hG
  refine hp_getR (f := 0) d_MRunner_emits_1 q1 (by decide) rfl (by decide) (k9 183 rfl rfl) rfl e3 ?_
  obtain ⟨q4, hG⟩ := ck_s hF; clear hF
  obtain ⟨a5, e6, hF⟩ := rf_s hG; clear hG
  refine hp_getRN (f := 8) d_MRunner_emits_4 q4 (by decide) rfl (by decide) (k8 170 rfl rfl) rfl e6 ?_
  refine ab_aload_n d_MRunner_emits_7 rfl rfl rfl ?_
  refine hp_getI (f := 11) d_MRunner_emits_8 q1 (by decide) rfl (by decide) (k9 194 rfl rfl) rfl ?_
  refine ab_topi (fun x7 ex7 => ?_)
  replace hF := bnd_s ex7 hF
  obtain ⟨n8, q9, hG⟩ := ar_s hF; clear hF
  obtain ⟨q10, hF⟩ := ck_s hG; clear hG
  refine hp_iald d_MRunner_emits_11 tI q9 q10 ?_
  refine ab_topi (fun x11 ex11 => ?_)
  replace hF := bnd_s ex11 hF
  refine ab_istore_n (lv' := [some (.ref p0), some (.int x11), none, none, none, none, none, none, none]) d_MRunner_emits_12 rfl (by decide) rfl ?_
  refine ab_aload_n d_MRunner_emits_13 rfl rfl rfl ?_
  refine ab_dup d_MRunner_emits_14 rfl ?_
  refine hp_getI (f := 11) d_MRunner_emits_15 q1 (by decide) rfl (by decide) (k9 194 rfl rfl) rfl ?_
  refine ab_topi (fun x12 ex12 => ?_)
  replace hF := bnd_s ex12 hF
  refine ab_iconst (v := 2) d_MRunner_emits_18 (by decide) ?_
  refine ab_iadd d_MRunner_emits_19 ?_
  refine hp_putI (v := x12 + (2 : Int32)) (f := 11) d_MRunner_emits_20 q1 (by decide) rfl (by decide) (k9 194 rfl rfl) rfl rfl (fun _ => rfl) (fun _ => rfl) rfl ?_
  refine hp_gen (fun H13 eH13 => ?_)
  replace hF := bnd_s eH13 hF
  have s_1 : Sa H H13 := by rw [eH13]; exact Sa.rf _
  refine ab_iconst (v := 0) d_MRunner_emits_23 (by decide) ?_
  refine ab_istore_n (lv' := [some (.ref p0), some (.int x11), some (.int 0), none, none, none, none, none, none]) d_MRunner_emits_24 rfl (by decide) rfl ?_
  refine ab_iconst (v := 0) d_MRunner_emits_25 (by decide) ?_
  refine ab_istore_n (lv' := [some (.ref p0), some (.int x11), some (.int 0), some (.int 0), none, none, none, none, none]) d_MRunner_emits_26 rfl (by decide) rfl ?_
  refine ab_iconst (v := 0) d_MRunner_emits_27 (by decide) ?_
  refine ab_istore (lv' := [some (.ref p0), some (.int x11), some (.int 0), some (.int 0), some (.int 0), none, none, none, none]) d_MRunner_emits_28 (by decide) rfl ?_
  refine ab_iconst (v := 0) d_MRunner_emits_30 (by decide) ?_
  refine ab_istore (lv' := [some (.ref p0), some (.int x11), some (.int 0), some (.int 0), some (.int 0), some (.int 0), none, none, none]) d_MRunner_emits_31 (by decide) rfl ?_
  refine ab_iconst (v := 0) d_MRunner_emits_33 (by decide) ?_
  refine ab_istore (lv' := [some (.ref p0), some (.int x11), some (.int 0), some (.int 0), some (.int 0), some (.int 0), some (.int 0), none, none]) d_MRunner_emits_34 (by decide) rfl ?_
  exact kB_MRunner_emits_36 N x11 0 0 0 0 0 H13 r hF
def y_MRunner_commands : ab_Y := (⟨"WorldEngineModel$Runner", "commands", "(I)V"⟩, prog_15_method_19_code, 7, none, [])
theorem d_MRunner_commands_0 : decode y_MRunner_commands.2.1 0 = .ok (.aload_n 0, 1) := by decide +kernel
theorem d_MRunner_commands_1 : decode y_MRunner_commands.2.1 1 = .ok (.dup, 1) := by decide +kernel
theorem d_MRunner_commands_2 : decode y_MRunner_commands.2.1 2 = .ok (.getfield 108, 3) := by decide +kernel
theorem d_MRunner_commands_5 : decode y_MRunner_commands.2.1 5 = .ok (.iconst 1, 1) := by decide +kernel
theorem d_MRunner_commands_6 : decode y_MRunner_commands.2.1 6 = .ok (.iadd, 1) := by decide +kernel
theorem d_MRunner_commands_7 : decode y_MRunner_commands.2.1 7 = .ok (.putfield 108, 3) := by decide +kernel
theorem d_MRunner_commands_10 : decode y_MRunner_commands.2.1 10 = .ok (.aload_n 0, 1) := by decide +kernel
theorem d_MRunner_commands_11 : decode y_MRunner_commands.2.1 11 = .ok (.invokevirtual 137, 3) := by decide +kernel
theorem d_MRunner_commands_14 : decode y_MRunner_commands.2.1 14 = .ok (.istore_n 2, 1) := by decide +kernel
theorem d_MRunner_commands_15 : decode y_MRunner_commands.2.1 15 = .ok (.aload_n 0, 1) := by decide +kernel
theorem d_MRunner_commands_16 : decode y_MRunner_commands.2.1 16 = .ok (.dup, 1) := by decide +kernel
theorem d_MRunner_commands_17 : decode y_MRunner_commands.2.1 17 = .ok (.getfield 108, 3) := by decide +kernel
theorem d_MRunner_commands_20 : decode y_MRunner_commands.2.1 20 = .ok (.iconst 1, 1) := by decide +kernel
theorem d_MRunner_commands_21 : decode y_MRunner_commands.2.1 21 = .ok (.iadd, 1) := by decide +kernel
theorem d_MRunner_commands_22 : decode y_MRunner_commands.2.1 22 = .ok (.putfield 108, 3) := by decide +kernel
theorem d_MRunner_commands_25 : decode y_MRunner_commands.2.1 25 = .ok (.iconst 0, 1) := by decide +kernel
theorem d_MRunner_commands_26 : decode y_MRunner_commands.2.1 26 = .ok (.istore_n 3, 1) := by decide +kernel
theorem d_MRunner_commands_27 : decode y_MRunner_commands.2.1 27 = .ok (.iconst 0, 1) := by decide +kernel
theorem d_MRunner_commands_28 : decode y_MRunner_commands.2.1 28 = .ok (.istore 4, 2) := by decide +kernel
theorem d_MRunner_commands_30 : decode y_MRunner_commands.2.1 30 = .ok (.iconst 0, 1) := by decide +kernel
theorem d_MRunner_commands_31 : decode y_MRunner_commands.2.1 31 = .ok (.istore 5, 2) := by decide +kernel
theorem d_MRunner_commands_33 : decode y_MRunner_commands.2.1 33 = .ok (.iload_n 1, 1) := by decide +kernel
theorem d_MRunner_commands_34 : decode y_MRunner_commands.2.1 34 = .ok (.sipush 226, 3) := by decide +kernel
theorem d_MRunner_commands_37 : decode y_MRunner_commands.2.1 37 = .ok (.if_icmp .ne 75, 3) := by decide +kernel
theorem d_MRunner_commands_40 : decode y_MRunner_commands.2.1 40 = .ok (.aload_n 0, 1) := by decide +kernel
theorem d_MRunner_commands_41 : decode y_MRunner_commands.2.1 41 = .ok (.getfield 25, 3) := by decide +kernel
theorem d_MRunner_commands_44 : decode y_MRunner_commands.2.1 44 = .ok (.getfield 122, 3) := by decide +kernel
theorem d_MRunner_commands_47 : decode y_MRunner_commands.2.1 47 = .ok (.aload_n 0, 1) := by decide +kernel
theorem d_MRunner_commands_48 : decode y_MRunner_commands.2.1 48 = .ok (.getfield 108, 3) := by decide +kernel
theorem d_MRunner_commands_51 : decode y_MRunner_commands.2.1 51 = .ok (.iaload, 1) := by decide +kernel
theorem d_MRunner_commands_52 : decode y_MRunner_commands.2.1 52 = .ok (.istore_n 3, 1) := by decide +kernel
theorem d_MRunner_commands_53 : decode y_MRunner_commands.2.1 53 = .ok (.aload_n 0, 1) := by decide +kernel
theorem d_MRunner_commands_54 : decode y_MRunner_commands.2.1 54 = .ok (.getfield 25, 3) := by decide +kernel
theorem d_MRunner_commands_57 : decode y_MRunner_commands.2.1 57 = .ok (.getfield 122, 3) := by decide +kernel
theorem d_MRunner_commands_60 : decode y_MRunner_commands.2.1 60 = .ok (.aload_n 0, 1) := by decide +kernel
theorem d_MRunner_commands_61 : decode y_MRunner_commands.2.1 61 = .ok (.getfield 108, 3) := by decide +kernel
theorem d_MRunner_commands_64 : decode y_MRunner_commands.2.1 64 = .ok (.iconst 2, 1) := by decide +kernel
theorem d_MRunner_commands_65 : decode y_MRunner_commands.2.1 65 = .ok (.iadd, 1) := by decide +kernel
theorem d_MRunner_commands_66 : decode y_MRunner_commands.2.1 66 = .ok (.iaload, 1) := by decide +kernel
theorem d_MRunner_commands_67 : decode y_MRunner_commands.2.1 67 = .ok (.istore 4, 2) := by decide +kernel
theorem d_MRunner_commands_69 : decode y_MRunner_commands.2.1 69 = .ok (.aload_n 0, 1) := by decide +kernel
theorem d_MRunner_commands_70 : decode y_MRunner_commands.2.1 70 = .ok (.dup, 1) := by decide +kernel
theorem d_MRunner_commands_71 : decode y_MRunner_commands.2.1 71 = .ok (.getfield 108, 3) := by decide +kernel
theorem d_MRunner_commands_74 : decode y_MRunner_commands.2.1 74 = .ok (.iconst 4, 1) := by decide +kernel
theorem d_MRunner_commands_75 : decode y_MRunner_commands.2.1 75 = .ok (.iadd, 1) := by decide +kernel
theorem d_MRunner_commands_76 : decode y_MRunner_commands.2.1 76 = .ok (.putfield 108, 3) := by decide +kernel
theorem d_MRunner_commands_79 : decode y_MRunner_commands.2.1 79 = .ok (.aload_n 0, 1) := by decide +kernel
theorem d_MRunner_commands_80 : decode y_MRunner_commands.2.1 80 = .ok (.getfield 96, 3) := by decide +kernel
theorem d_MRunner_commands_83 : decode y_MRunner_commands.2.1 83 = .ok (.ifCond .le 7, 3) := by decide +kernel
theorem d_MRunner_commands_86 : decode y_MRunner_commands.2.1 86 = .ok (.iconst 0, 1) := by decide +kernel
theorem d_MRunner_commands_87 : decode y_MRunner_commands.2.1 87 = .ok (.goto 20, 3) := by decide +kernel
theorem d_MRunner_commands_90 : decode y_MRunner_commands.2.1 90 = .ok (.aload_n 0, 1) := by decide +kernel
theorem d_MRunner_commands_91 : decode y_MRunner_commands.2.1 91 = .ok (.getfield 25, 3) := by decide +kernel
theorem d_MRunner_commands_94 : decode y_MRunner_commands.2.1 94 = .ok (.getfield 160, 3) := by decide +kernel
theorem d_MRunner_commands_97 : decode y_MRunner_commands.2.1 97 = .ok (.iload 4, 2) := by decide +kernel
theorem d_MRunner_commands_99 : decode y_MRunner_commands.2.1 99 = .ok (.iaload, 1) := by decide +kernel
theorem d_MRunner_commands_100 : decode y_MRunner_commands.2.1 100 = .ok (.aload_n 0, 1) := by decide +kernel
theorem d_MRunner_commands_101 : decode y_MRunner_commands.2.1 101 = .ok (.invokevirtual 137, 3) := by decide +kernel
theorem d_MRunner_commands_104 : decode y_MRunner_commands.2.1 104 = .ok (.invokestatic 163, 3) := by decide +kernel
theorem d_MRunner_commands_107 : decode y_MRunner_commands.2.1 107 = .ok (.istore 5, 2) := by decide +kernel
theorem d_MRunner_commands_109 : decode y_MRunner_commands.2.1 109 = .ok (.goto 40, 3) := by decide +kernel
theorem d_MRunner_commands_112 : decode y_MRunner_commands.2.1 112 = .ok (.iload_n 1, 1) := by decide +kernel
theorem d_MRunner_commands_113 : decode y_MRunner_commands.2.1 113 = .ok (.sipush 224, 3) := by decide +kernel
theorem d_MRunner_commands_116 : decode y_MRunner_commands.2.1 116 = .ok (.if_icmp .eq 10, 3) := by decide +kernel
theorem d_MRunner_commands_119 : decode y_MRunner_commands.2.1 119 = .ok (.iload_n 1, 1) := by decide +kernel
theorem d_MRunner_commands_120 : decode y_MRunner_commands.2.1 120 = .ok (.sipush 225, 3) := by decide +kernel
theorem d_MRunner_commands_123 : decode y_MRunner_commands.2.1 123 = .ok (.if_icmp .ne 26, 3) := by decide +kernel
theorem d_MRunner_commands_126 : decode y_MRunner_commands.2.1 126 = .ok (.aload_n 0, 1) := by decide +kernel
theorem d_MRunner_commands_127 : decode y_MRunner_commands.2.1 127 = .ok (.getfield 25, 3) := by decide +kernel
theorem d_MRunner_commands_130 : decode y_MRunner_commands.2.1 130 = .ok (.getfield 122, 3) := by decide +kernel
theorem d_MRunner_commands_133 : decode y_MRunner_commands.2.1 133 = .ok (.aload_n 0, 1) := by decide +kernel
theorem d_MRunner_commands_134 : decode y_MRunner_commands.2.1 134 = .ok (.getfield 108, 3) := by decide +kernel
theorem d_MRunner_commands_137 : decode y_MRunner_commands.2.1 137 = .ok (.iaload, 1) := by decide +kernel
theorem d_MRunner_commands_138 : decode y_MRunner_commands.2.1 138 = .ok (.istore_n 3, 1) := by decide +kernel
theorem d_MRunner_commands_139 : decode y_MRunner_commands.2.1 139 = .ok (.aload_n 0, 1) := by decide +kernel
theorem d_MRunner_commands_140 : decode y_MRunner_commands.2.1 140 = .ok (.dup, 1) := by decide +kernel
theorem d_MRunner_commands_141 : decode y_MRunner_commands.2.1 141 = .ok (.getfield 108, 3) := by decide +kernel
theorem d_MRunner_commands_144 : decode y_MRunner_commands.2.1 144 = .ok (.iconst 1, 1) := by decide +kernel
theorem d_MRunner_commands_145 : decode y_MRunner_commands.2.1 145 = .ok (.iadd, 1) := by decide +kernel
theorem d_MRunner_commands_146 : decode y_MRunner_commands.2.1 146 = .ok (.putfield 108, 3) := by decide +kernel
theorem d_MRunner_commands_149 : decode y_MRunner_commands.2.1 149 = .ok (.aload_n 0, 1) := by decide +kernel
theorem d_MRunner_commands_150 : decode y_MRunner_commands.2.1 150 = .ok (.dup, 1) := by decide +kernel
theorem d_MRunner_commands_151 : decode y_MRunner_commands.2.1 151 = .ok (.getfield 108, 3) := by decide +kernel
theorem d_MRunner_commands_154 : decode y_MRunner_commands.2.1 154 = .ok (.iconst 1, 1) := by decide +kernel
theorem d_MRunner_commands_155 : decode y_MRunner_commands.2.1 155 = .ok (.iadd, 1) := by decide +kernel
theorem d_MRunner_commands_156 : decode y_MRunner_commands.2.1 156 = .ok (.putfield 108, 3) := by decide +kernel
theorem d_MRunner_commands_159 : decode y_MRunner_commands.2.1 159 = .ok (.aload_n 0, 1) := by decide +kernel
theorem d_MRunner_commands_160 : decode y_MRunner_commands.2.1 160 = .ok (.iload_n 1, 1) := by decide +kernel
theorem d_MRunner_commands_161 : decode y_MRunner_commands.2.1 161 = .ok (.invokevirtual 200, 3) := by decide +kernel
theorem d_MRunner_commands_164 : decode y_MRunner_commands.2.1 164 = .ok (.istore 6, 2) := by decide +kernel
theorem d_MRunner_commands_166 : decode y_MRunner_commands.2.1 166 = .ok (.iload 6, 2) := by decide +kernel
theorem d_MRunner_commands_168 : decode y_MRunner_commands.2.1 168 = .ok (.ifCond .ge 4, 3) := by decide +kernel
theorem d_MRunner_commands_171 : decode y_MRunner_commands.2.1 171 = .ok (.return_, 1) := by decide +kernel
theorem d_MRunner_commands_172 : decode y_MRunner_commands.2.1 172 = .ok (.aload_n 0, 1) := by decide +kernel
theorem d_MRunner_commands_173 : decode y_MRunner_commands.2.1 173 = .ok (.getfield 12, 3) := by decide +kernel
theorem d_MRunner_commands_176 : decode y_MRunner_commands.2.1 176 = .ok (.iload 6, 2) := by decide +kernel
theorem d_MRunner_commands_178 : decode y_MRunner_commands.2.1 178 = .ok (.iconst 1, 1) := by decide +kernel
theorem d_MRunner_commands_179 : decode y_MRunner_commands.2.1 179 = .ok (.iadd, 1) := by decide +kernel
theorem d_MRunner_commands_180 : decode y_MRunner_commands.2.1 180 = .ok (.iload_n 2, 1) := by decide +kernel
theorem d_MRunner_commands_181 : decode y_MRunner_commands.2.1 181 = .ok (.iastore, 1) := by decide +kernel
theorem d_MRunner_commands_182 : decode y_MRunner_commands.2.1 182 = .ok (.aload_n 0, 1) := by decide +kernel
theorem d_MRunner_commands_183 : decode y_MRunner_commands.2.1 183 = .ok (.getfield 12, 3) := by decide +kernel
theorem d_MRunner_commands_186 : decode y_MRunner_commands.2.1 186 = .ok (.iload 6, 2) := by decide +kernel
theorem d_MRunner_commands_188 : decode y_MRunner_commands.2.1 188 = .ok (.iconst 2, 1) := by decide +kernel
theorem d_MRunner_commands_189 : decode y_MRunner_commands.2.1 189 = .ok (.iadd, 1) := by decide +kernel
theorem d_MRunner_commands_190 : decode y_MRunner_commands.2.1 190 = .ok (.iload_n 3, 1) := by decide +kernel
theorem d_MRunner_commands_191 : decode y_MRunner_commands.2.1 191 = .ok (.iastore, 1) := by decide +kernel
theorem d_MRunner_commands_192 : decode y_MRunner_commands.2.1 192 = .ok (.aload_n 0, 1) := by decide +kernel
theorem d_MRunner_commands_193 : decode y_MRunner_commands.2.1 193 = .ok (.getfield 12, 3) := by decide +kernel
theorem d_MRunner_commands_196 : decode y_MRunner_commands.2.1 196 = .ok (.iload 6, 2) := by decide +kernel
theorem d_MRunner_commands_198 : decode y_MRunner_commands.2.1 198 = .ok (.iconst 3, 1) := by decide +kernel
theorem d_MRunner_commands_199 : decode y_MRunner_commands.2.1 199 = .ok (.iadd, 1) := by decide +kernel
theorem d_MRunner_commands_200 : decode y_MRunner_commands.2.1 200 = .ok (.iload 4, 2) := by decide +kernel
theorem d_MRunner_commands_202 : decode y_MRunner_commands.2.1 202 = .ok (.iastore, 1) := by decide +kernel
theorem d_MRunner_commands_203 : decode y_MRunner_commands.2.1 203 = .ok (.aload_n 0, 1) := by decide +kernel
theorem d_MRunner_commands_204 : decode y_MRunner_commands.2.1 204 = .ok (.getfield 12, 3) := by decide +kernel
theorem d_MRunner_commands_207 : decode y_MRunner_commands.2.1 207 = .ok (.iload 6, 2) := by decide +kernel
theorem d_MRunner_commands_209 : decode y_MRunner_commands.2.1 209 = .ok (.iconst 4, 1) := by decide +kernel
theorem d_MRunner_commands_210 : decode y_MRunner_commands.2.1 210 = .ok (.iadd, 1) := by decide +kernel
theorem d_MRunner_commands_211 : decode y_MRunner_commands.2.1 211 = .ok (.iload 5, 2) := by decide +kernel
theorem d_MRunner_commands_213 : decode y_MRunner_commands.2.1 213 = .ok (.iastore, 1) := by decide +kernel
theorem d_MRunner_commands_214 : decode y_MRunner_commands.2.1 214 = .ok (.return_, 1) := by decide +kernel
theorem s_MRunner_commands : ab_Stat y_MRunner_commands 1 := ⟨(k12 128 rfl rfl), (k1 22 rfl rfl), ⟨by decide, by decide⟩, by decide +kernel⟩
theorem i_MRunner_commands : Cond.instanceMethod y_MRunner_commands.1 ∈ ab_T := (k12 127 rfl rfl)
theorem v_MRunner_commands : Cond.selects "WorldEngineModel$Runner" y_MRunner_commands.1 y_MRunner_commands.1 ∈ ab_T := ab_s (List.mem_of_getElem? (i := 203) rfl) rfl
def B_MRunner_commands_149 (N : Nat) (p0 : Nat) (p1 : Int32) (l2 : Int32) (l3 : Int32) (l4 : Int32) (l5 : Int32) (H : Hp) : Option (Unit × Hp) :=
    ck (H.sh[p0]? = some (15, 0)) <|
    bnd ((H.D p0 11)) fun x25 =>
    bnd (H.sD p0 11 (x25 + (1 : Int32))) fun H26 =>
    bC (F_MRunner_commanded N p0 p1 H26) fun v28 H29 =>
    if (0 : Int32) ≤ v28 then
    rf (H29.P p0 3) fun a31 =>
    ar H29 100 a31 fun n33 =>
    ck (inb (v28 + (1 : Int32)) n33) <|
    bnd (H29.sD a31 ((v28 + (1 : Int32))).toNatClampNeg l2) fun H36 =>
    rf (H36.P p0 3) fun a37 =>
    ar H36 100 a37 fun n39 =>
    ck (inb (v28 + (2 : Int32)) n39) <|
    bnd (H36.sD a37 ((v28 + (2 : Int32))).toNatClampNeg l3) fun H42 =>
    rf (H42.P p0 3) fun a43 =>
    ar H42 100 a43 fun n45 =>
    ck (inb (v28 + (3 : Int32)) n45) <|
    bnd (H42.sD a43 ((v28 + (3 : Int32))).toNatClampNeg l4) fun H48 =>
    rf (H48.P p0 3) fun a49 =>
    ar H48 100 a49 fun n51 =>
    ck (inb (v28 + (4 : Int32)) n51) <|
    bnd (H48.sD a49 ((v28 + (4 : Int32))).toNatClampNeg l5) fun H54 =>
    some ((), H54)
    else
    some ((), H29)
set_option maxRecDepth 20000 in
set_option maxHeartbeats 2000000 in
theorem mB_MRunner_commands_149 {N : Nat} {p0 : Nat} {p1 : Int32} {l2 : Int32} {l3 : Int32} {l4 : Int32} {l5 : Int32} {H : Hp} {r : Unit × Hp} (hF : B_MRunner_commands_149 N p0 p1 l2 l3 l4 l5 H = some r) : Sa H r.2 := by
  unfold B_MRunner_commands_149 at hF
  have hm := Sa.rf H
  obtain ⟨q55, hG⟩ := ck_s hF; clear hF
  obtain ⟨x56, -, hF⟩ := bnd_g hG; clear hG
  obtain ⟨H57, eH57, hG⟩ := bnd_g hF; clear hF
  replace hm : Sa H H57 := by rw [eH57]; exact hm
  obtain ⟨v59, H60, z58, hF⟩ := bC_s hG; clear hG
  replace hm : Sa H H60 := hm.tr (m_MRunner_commanded z58)
  rcases ite_s hF with ⟨q_13, hG⟩ | ⟨q_13, hG⟩
  · clear hF
    obtain ⟨a62, e63, hF⟩ := rf_s hG; clear hG
    obtain ⟨n64, q65, hG⟩ := ar_s hF; clear hF
    obtain ⟨q66, hF⟩ := ck_s hG; clear hG
    obtain ⟨H67, eH67, hG⟩ := bnd_g hF; clear hF
    replace hm : Sa H H67 := by rw [eH67]; exact hm
    obtain ⟨a68, e69, hF⟩ := rf_s hG; clear hG
    obtain ⟨n70, q71, hG⟩ := ar_s hF; clear hF
    obtain ⟨q72, hF⟩ := ck_s hG; clear hG
    obtain ⟨H73, eH73, hG⟩ := bnd_g hF; clear hF
    replace hm : Sa H H73 := by rw [eH73]; exact hm
    obtain ⟨a74, e75, hF⟩ := rf_s hG; clear hG
    obtain ⟨n76, q77, hG⟩ := ar_s hF; clear hF
    obtain ⟨q78, hF⟩ := ck_s hG; clear hG
    obtain ⟨H79, eH79, hG⟩ := bnd_g hF; clear hF
    replace hm : Sa H H79 := by rw [eH79]; exact hm
    obtain ⟨a80, e81, hF⟩ := rf_s hG; clear hG
    obtain ⟨n82, q83, hG⟩ := ar_s hF; clear hF
    obtain ⟨q84, hF⟩ := ck_s hG; clear hG
    obtain ⟨H85, eH85, hG⟩ := bnd_g hF; clear hF
    replace hm : Sa H H85 := by rw [eH85]; exact hm
    have hr := Option.some.inj hG; subst hr
    exact hm
  · clear hF
    have hr := Option.some.inj hG; subst hr
    exact hm
set_option maxRecDepth 20000 in
set_option maxHeartbeats 2000000 in
theorem kB_MRunner_commands_149 {N : Nat} {p0 : Nat} {p1 : Int32} {l2 : Int32} {l3 : Int32} {l4 : Int32} {l5 : Int32} {H : Hp} {r : Unit × Hp} (hF : B_MRunner_commands_149 N p0 p1 l2 l3 l4 l5 H = some r) : ab_V y_MRunner_commands { frames := 254, cells := 0, slots := 0, locals := 6237 } (po (.returned none) r.2) 0 0 0 0 149 [some (.ref p0), some (.int p1), some (.int l2), some (.int l3), some (.int l4), some (.int l5), none] [] (hpw H) := by
  unfold B_MRunner_commands_149 at hF
  refine ab_aload_n d_MRunner_commands_149 rfl rfl rfl ?_
  refine ab_dup d_MRunner_commands_150 rfl ?_
  obtain ⟨q24, hG⟩ := ck_s hF; clear hF
  refine hp_getI (f := 11) d_MRunner_commands_151 q24 (by decide) rfl (by decide) (k9 194 rfl rfl) rfl ?_
  refine ab_topi (fun x25 ex25 => ?_)
  replace hG := bnd_s ex25 hG
  refine ab_iconst (v := 1) d_MRunner_commands_154 (by decide) ?_
  refine ab_iadd d_MRunner_commands_155 ?_
  refine hp_putI (v := x25 + (1 : Int32)) (f := 11) d_MRunner_commands_156 q24 (by decide) rfl (by decide) (k9 194 rfl rfl) rfl rfl (fun _ => rfl) (fun _ => rfl) rfl ?_
  refine hp_gen (fun H26 eH26 => ?_)
  replace hG := bnd_s eH26 hG
  have s_5 : Sa H H26 := by rw [eH26]; exact Sa.rf _
  refine ab_aload_n d_MRunner_commands_159 rfl rfl rfl ?_
  refine ab_iload_n d_MRunner_commands_160 rfl rfl ?_
  obtain ⟨v28, H29, z27, hF⟩ := bC_s hG; clear hG
  refine hp_callV_a (v := .int v28) (H1 := H29) (As := [.int p1]) (rest := []) d_MRunner_commands_161 (k_MRunner_commanded z27) (ab_mkC s_MRunner_commanded (Nat.le_of_ble_eq_true rfl) (Nat.le_of_ble_eq_true rfl) (Nat.le_refl 0) (Nat.le_refl 0)) (k12 116 rfl rfl) i_MRunner_commanded v_MRunner_commanded (by rw [(s_5).1]; exact q24) (by decide) rfl rfl (Nat.le_of_ble_eq_true rfl) ?_
  have s_6 : Sa H H29 := (s_5).tr (m_MRunner_commanded z27)
  refine ab_istore (lv' := [some (.ref p0), some (.int p1), some (.int l2), some (.int l3), some (.int l4), some (.int l5), some (.int v28)]) d_MRunner_commands_164 (by decide) rfl ?_
  refine ab_iload d_MRunner_commands_166 rfl ?_
  refine ab_if_ge (tgt := 172) d_MRunner_commands_168 (by decide) (fun q30 => ?_) (fun q30 => ?_)
  · rw [if_pos q30] at hF
    refine ab_aload_n d_MRunner_commands_172 rfl rfl rfl ?_
    obtain ⟨a31, e32, hG⟩ := rf_s hF; clear hF
    refine hp_getR (f := 3) d_MRunner_commands_173 (by rw [(s_6).1]; exact q24) (by decide) rfl (by decide) (k9 186 rfl rfl) rfl e32 ?_
    refine ab_iload d_MRunner_commands_176 rfl ?_
    refine ab_iconst (v := 1) d_MRunner_commands_178 (by decide) ?_
    refine ab_iadd d_MRunner_commands_179 ?_
    refine ab_iload_n d_MRunner_commands_180 rfl rfl ?_
    obtain ⟨n33, q34, hF⟩ := ar_s hG; clear hG
    rw [(s_6).1] at q34
    obtain ⟨q35, hG⟩ := ck_s hF; clear hF
    refine hp_iast d_MRunner_commands_181 tI (by rw [(s_6).1]; exact q34) q35 ?_
    refine hp_gen (fun H36 eH36 => ?_)
    replace hG := bnd_s eH36 hG
    have s_7 : Sa H H36 := by rw [eH36]; exact s_6
    refine ab_aload_n d_MRunner_commands_182 rfl rfl rfl ?_
    obtain ⟨a37, e38, hF⟩ := rf_s hG; clear hG
    refine hp_getR (f := 3) d_MRunner_commands_183 (by rw [(s_7).1]; exact q24) (by decide) rfl (by decide) (k9 186 rfl rfl) rfl e38 ?_
    refine ab_iload d_MRunner_commands_186 rfl ?_
    refine ab_iconst (v := 2) d_MRunner_commands_188 (by decide) ?_
    refine ab_iadd d_MRunner_commands_189 ?_
    refine ab_iload_n d_MRunner_commands_190 rfl rfl ?_
    obtain ⟨n39, q40, hG⟩ := ar_s hF; clear hF
    rw [(s_7).1] at q40
    obtain ⟨q41, hF⟩ := ck_s hG; clear hG
    refine hp_iast d_MRunner_commands_191 tI (by rw [(s_7).1]; exact q40) q41 ?_
    refine hp_gen (fun H42 eH42 => ?_)
    replace hF := bnd_s eH42 hF
    have s_8 : Sa H H42 := by rw [eH42]; exact s_7
    refine ab_aload_n d_MRunner_commands_192 rfl rfl rfl ?_
    obtain ⟨a43, e44, hG⟩ := rf_s hF; clear hF
    refine hp_getR (f := 3) d_MRunner_commands_193 (by rw [(s_8).1]; exact q24) (by decide) rfl (by decide) (k9 186 rfl rfl) rfl e44 ?_
    refine ab_iload d_MRunner_commands_196 rfl ?_
    refine ab_iconst (v := 3) d_MRunner_commands_198 (by decide) ?_
    refine ab_iadd d_MRunner_commands_199 ?_
    refine ab_iload d_MRunner_commands_200 rfl ?_
    obtain ⟨n45, q46, hF⟩ := ar_s hG; clear hG
    rw [(s_8).1] at q46
    obtain ⟨q47, hG⟩ := ck_s hF; clear hF
    refine hp_iast d_MRunner_commands_202 tI (by rw [(s_8).1]; exact q46) q47 ?_
    refine hp_gen (fun H48 eH48 => ?_)
    replace hG := bnd_s eH48 hG
    have s_9 : Sa H H48 := by rw [eH48]; exact s_8
    refine ab_aload_n d_MRunner_commands_203 rfl rfl rfl ?_
    obtain ⟨a49, e50, hF⟩ := rf_s hG; clear hG
    refine hp_getR (f := 3) d_MRunner_commands_204 (by rw [(s_9).1]; exact q24) (by decide) rfl (by decide) (k9 186 rfl rfl) rfl e50 ?_
    refine ab_iload d_MRunner_commands_207 rfl ?_
    refine ab_iconst (v := 4) d_MRunner_commands_209 (by decide) ?_
    refine ab_iadd d_MRunner_commands_210 ?_
    refine ab_iload d_MRunner_commands_211 rfl ?_
    obtain ⟨n51, q52, hG⟩ := ar_s hF; clear hF
    rw [(s_9).1] at q52
    obtain ⟨q53, hF⟩ := ck_s hG; clear hG
    refine hp_iast d_MRunner_commands_213 tI (by rw [(s_9).1]; exact q52) q53 ?_
    refine hp_gen (fun H54 eH54 => ?_)
    replace hF := bnd_s eH54 hF
    have s_10 : Sa H H54 := by rw [eH54]; exact s_9
    exact ab_vret d_MRunner_commands_214 rfl (Nat.le_refl _) (Nat.le_refl _) (by have hr := Option.some.inj hF; subst hr; exact ⟨rfl, rfl⟩)
  · rw [if_neg q30] at hF
    exact ab_vret d_MRunner_commands_171 rfl (Nat.le_refl _) (Nat.le_refl _) (by have hr := Option.some.inj hF; subst hr; exact ⟨rfl, rfl⟩)
def B_MRunner_commands_126 (N : Nat) (p0 : Nat) (p1 : Int32) (l2 : Int32) (l4 : Int32) (l5 : Int32) (H : Hp) : Option (Unit × Hp) :=
    ck (H.sh[p0]? = some (15, 0)) <|
    rf (H.P p0 0) fun a12 =>
    ck (H.sh[a12]? = some (14, 0)) <|
    rf (H.P a12 8) fun a15 =>
    bnd ((H.D p0 11)) fun x17 =>
    ar H 100 a15 fun n18 =>
    ck (inb x17 n18) <|
    bnd ((H.D a15 (x17).toNatClampNeg)) fun x21 =>
    bnd ((H.D p0 11)) fun x22 =>
    bnd (H.sD p0 11 (x22 + (1 : Int32))) fun H23 =>
    B_MRunner_commands_149 N p0 p1 l2 x21 l4 l5 H23
set_option maxRecDepth 20000 in
set_option maxHeartbeats 2000000 in
theorem mB_MRunner_commands_126 {N : Nat} {p0 : Nat} {p1 : Int32} {l2 : Int32} {l4 : Int32} {l5 : Int32} {H : Hp} {r : Unit × Hp} (hF : B_MRunner_commands_126 N p0 p1 l2 l4 l5 H = some r) : Sa H r.2 := by
  unfold B_MRunner_commands_126 at hF
  have hm := Sa.rf H
  obtain ⟨q86, hG⟩ := ck_s hF; clear hF
  obtain ⟨a87, e88, hF⟩ := rf_s hG; clear hG
  obtain ⟨q89, hG⟩ := ck_s hF; clear hF
  obtain ⟨a90, e91, hF⟩ := rf_s hG; clear hG
  obtain ⟨x92, -, hG⟩ := bnd_g hF; clear hF
  obtain ⟨n93, q94, hF⟩ := ar_s hG; clear hG
  obtain ⟨q95, hG⟩ := ck_s hF; clear hF
  obtain ⟨x96, -, hF⟩ := bnd_g hG; clear hG
  obtain ⟨x97, -, hG⟩ := bnd_g hF; clear hF
  obtain ⟨H98, eH98, hF⟩ := bnd_g hG; clear hG
  replace hm : Sa H H98 := by rw [eH98]; exact hm
  exact hm.tr (mB_MRunner_commands_149 hF)
set_option maxRecDepth 20000 in
set_option maxHeartbeats 2000000 in
theorem kB_MRunner_commands_126 {N : Nat} {p0 : Nat} {p1 : Int32} {l2 : Int32} {l4 : Int32} {l5 : Int32} {H : Hp} {r : Unit × Hp} (hF : B_MRunner_commands_126 N p0 p1 l2 l4 l5 H = some r) : ab_V y_MRunner_commands { frames := 254, cells := 0, slots := 0, locals := 6237 } (po (.returned none) r.2) 0 0 0 0 126 [some (.ref p0), some (.int p1), some (.int l2), none, some (.int l4), some (.int l5), none] [] (hpw H) := by
  unfold B_MRunner_commands_126 at hF
  refine ab_aload_n d_MRunner_commands_126 rfl rfl rfl ?_
  obtain ⟨q11, hG⟩ := ck_s hF; clear hF
  obtain ⟨a12, e13, hF⟩ := rf_s hG; clear hG
  refine hp_getR (f := 0) d_MRunner_commands_127 q11 (by decide) rfl (by decide) (k9 183 rfl rfl) rfl e13 ?_
  obtain ⟨q14, hG⟩ := ck_s hF; clear hF
  obtain ⟨a15, e16, hF⟩ := rf_s hG; clear hG
  refine hp_getRN (f := 8) d_MRunner_commands_130 q14 (by decide) rfl (by decide) (k8 170 rfl rfl) rfl e16 ?_
  refine ab_aload_n d_MRunner_commands_133 rfl rfl rfl ?_
  refine hp_getI (f := 11) d_MRunner_commands_134 q11 (by decide) rfl (by decide) (k9 194 rfl rfl) rfl ?_
  refine ab_topi (fun x17 ex17 => ?_)
  replace hF := bnd_s ex17 hF
  obtain ⟨n18, q19, hG⟩ := ar_s hF; clear hF
  obtain ⟨q20, hF⟩ := ck_s hG; clear hG
  refine hp_iald d_MRunner_commands_137 tI q19 q20 ?_
  refine ab_topi (fun x21 ex21 => ?_)
  replace hF := bnd_s ex21 hF
  refine ab_istore_n (lv' := [some (.ref p0), some (.int p1), some (.int l2), some (.int x21), some (.int l4), some (.int l5), none]) d_MRunner_commands_138 rfl (by decide) rfl ?_
  refine ab_aload_n d_MRunner_commands_139 rfl rfl rfl ?_
  refine ab_dup d_MRunner_commands_140 rfl ?_
  refine hp_getI (f := 11) d_MRunner_commands_141 q11 (by decide) rfl (by decide) (k9 194 rfl rfl) rfl ?_
  refine ab_topi (fun x22 ex22 => ?_)
  replace hF := bnd_s ex22 hF
  refine ab_iconst (v := 1) d_MRunner_commands_144 (by decide) ?_
  refine ab_iadd d_MRunner_commands_145 ?_
  refine hp_putI (v := x22 + (1 : Int32)) (f := 11) d_MRunner_commands_146 q11 (by decide) rfl (by decide) (k9 194 rfl rfl) rfl rfl (fun _ => rfl) (fun _ => rfl) rfl ?_
  refine hp_gen (fun H23 eH23 => ?_)
  replace hF := bnd_s eH23 hF
  have s_4 : Sa H H23 := by rw [eH23]; exact Sa.rf _
  exact kB_MRunner_commands_149 hF
def B_MRunner_commands_107 (N : Nat) (p0 : Nat) (p1 : Int32) (l2 : Int32) (l3 : Int32) (l4 : Int32) (w0 : Int32) (H : Hp) : Option (Unit × Hp) :=
    B_MRunner_commands_149 N p0 p1 l2 l3 l4 w0 H
set_option maxRecDepth 20000 in
set_option maxHeartbeats 2000000 in
theorem mB_MRunner_commands_107 {N : Nat} {p0 : Nat} {p1 : Int32} {l2 : Int32} {l3 : Int32} {l4 : Int32} {w0 : Int32} {H : Hp} {r : Unit × Hp} (hF : B_MRunner_commands_107 N p0 p1 l2 l3 l4 w0 H = some r) : Sa H r.2 := by
  unfold B_MRunner_commands_107 at hF
  have hm := Sa.rf H
  exact hm.tr (mB_MRunner_commands_149 hF)
set_option maxRecDepth 20000 in
set_option maxHeartbeats 2000000 in
theorem kB_MRunner_commands_107 {N : Nat} {p0 : Nat} {p1 : Int32} {l2 : Int32} {l3 : Int32} {l4 : Int32} {w0 : Int32} {H : Hp} {r : Unit × Hp} (hF : B_MRunner_commands_107 N p0 p1 l2 l3 l4 w0 H = some r) : ab_V y_MRunner_commands { frames := 254, cells := 0, slots := 0, locals := 6237 } (po (.returned none) r.2) 0 0 0 0 107 [some (.ref p0), some (.int p1), some (.int l2), some (.int l3), some (.int l4), none, none] [.int w0] (hpw H) := by
  unfold B_MRunner_commands_107 at hF
  refine ab_istore (lv' := [some (.ref p0), some (.int p1), some (.int l2), some (.int l3), some (.int l4), some (.int w0), none]) d_MRunner_commands_107 (by decide) rfl ?_
  refine ab_goto (tgt := 149) d_MRunner_commands_109 (by decide) ?_
  exact kB_MRunner_commands_149 hF
def F_MRunner_commands (N : Nat) (p0 : Nat) (p1 : Int32) (H : Hp) : Option (Unit × Hp) :=
    ck (H.sh[p0]? = some (15, 0)) <|
    bnd ((H.D p0 11)) fun x2 =>
    bnd (H.sD p0 11 (x2 + (1 : Int32))) fun H3 =>
    bC ((X_RunE N 50).1 p0 H3) fun v5 H6 =>
    bnd ((H6.D p0 11)) fun x7 =>
    bnd (H6.sD p0 11 (x7 + (1 : Int32))) fun H8 =>
    if p1 = (226 : Int32) then
    rf (H8.P p0 0) fun a100 =>
    ck (H8.sh[a100]? = some (14, 0)) <|
    rf (H8.P a100 8) fun a103 =>
    bnd ((H8.D p0 11)) fun x105 =>
    ar H8 100 a103 fun n106 =>
    ck (inb x105 n106) <|
    bnd ((H8.D a103 (x105).toNatClampNeg)) fun x109 =>
    rf (H8.P p0 0) fun a110 =>
    ck (H8.sh[a110]? = some (14, 0)) <|
    rf (H8.P a110 8) fun a113 =>
    bnd ((H8.D p0 11)) fun x115 =>
    ar H8 100 a113 fun n116 =>
    ck (inb (x115 + (2 : Int32)) n116) <|
    bnd ((H8.D a113 ((x115 + (2 : Int32))).toNatClampNeg)) fun x119 =>
    bnd ((H8.D p0 11)) fun x120 =>
    bnd (H8.sD p0 11 (x120 + (4 : Int32))) fun H121 =>
    bnd ((H121.D p0 10)) fun x122 =>
    if x122 ≤ (0 : Int32) then
    rf (H121.P p0 0) fun a124 =>
    ck (H121.sh[a124]? = some (14, 0)) <|
    rf (H121.P a124 19) fun a127 =>
    ar H121 100 a127 fun n129 =>
    ck (inb x119 n129) <|
    bnd ((H121.D a127 (x119).toNatClampNeg)) fun x132 =>
    bC ((X_RunE N 50).1 p0 H121) fun v134 H135 =>
    bC (F_MRunner_given N x132 v134 H135) fun v137 H138 =>
    B_MRunner_commands_107 N p0 p1 v5 x109 x119 v137 H138
    else
    B_MRunner_commands_107 N p0 p1 v5 x109 x119 0 H121
    else
    if p1 = (224 : Int32) then
    B_MRunner_commands_126 N p0 p1 v5 0 0 H8
    else
    if p1 = (225 : Int32) then
    B_MRunner_commands_126 N p0 p1 v5 0 0 H8
    else
    B_MRunner_commands_149 N p0 p1 v5 0 0 0 H8
set_option maxRecDepth 20000 in
set_option maxHeartbeats 2000000 in
theorem m_MRunner_commands {N : Nat} {p0 : Nat} {p1 : Int32} {H : Hp} {r : Unit × Hp} (hF : F_MRunner_commands N p0 p1 H = some r) : Sa H r.2 := by
  unfold F_MRunner_commands at hF
  have hm := Sa.rf H
  obtain ⟨q139, hG⟩ := ck_s hF; clear hF
  obtain ⟨x140, -, hF⟩ := bnd_g hG; clear hG
  obtain ⟨H141, eH141, hG⟩ := bnd_g hF; clear hF
  replace hm : Sa H H141 := by rw [eH141]; exact hm
  obtain ⟨v143, H144, z142, hF⟩ := bC_s hG; clear hG
  replace hm : Sa H H144 := hm.tr ((moX_RunE 50).1 _ _ _ z142)
  obtain ⟨x145, -, hG⟩ := bnd_g hF; clear hF
  obtain ⟨H146, eH146, hF⟩ := bnd_g hG; clear hG
  replace hm : Sa H H146 := by rw [eH146]; exact hm
  rcases ite_s hF with ⟨q_25, hG⟩ | ⟨q_25, hG⟩
  · clear hF
    obtain ⟨a148, e149, hF⟩ := rf_s hG; clear hG
    obtain ⟨q150, hG⟩ := ck_s hF; clear hF
    obtain ⟨a151, e152, hF⟩ := rf_s hG; clear hG
    obtain ⟨x153, -, hG⟩ := bnd_g hF; clear hF
    obtain ⟨n154, q155, hF⟩ := ar_s hG; clear hG
    obtain ⟨q156, hG⟩ := ck_s hF; clear hF
    obtain ⟨x157, -, hF⟩ := bnd_g hG; clear hG
    obtain ⟨a158, e159, hG⟩ := rf_s hF; clear hF
    obtain ⟨q160, hF⟩ := ck_s hG; clear hG
    obtain ⟨a161, e162, hG⟩ := rf_s hF; clear hF
    obtain ⟨x163, -, hF⟩ := bnd_g hG; clear hG
    obtain ⟨n164, q165, hG⟩ := ar_s hF; clear hF
    obtain ⟨q166, hF⟩ := ck_s hG; clear hG
    obtain ⟨x167, -, hG⟩ := bnd_g hF; clear hF
    obtain ⟨x168, -, hF⟩ := bnd_g hG; clear hG
    obtain ⟨H169, eH169, hG⟩ := bnd_g hF; clear hF
    replace hm : Sa H H169 := by rw [eH169]; exact hm
    obtain ⟨x170, -, hF⟩ := bnd_g hG; clear hG
    rcases ite_s hF with ⟨q_27, hG⟩ | ⟨q_27, hG⟩
    · clear hF
      obtain ⟨a172, e173, hF⟩ := rf_s hG; clear hG
      obtain ⟨q174, hG⟩ := ck_s hF; clear hF
      obtain ⟨a175, e176, hF⟩ := rf_s hG; clear hG
      obtain ⟨n177, q178, hG⟩ := ar_s hF; clear hF
      obtain ⟨q179, hF⟩ := ck_s hG; clear hG
      obtain ⟨x180, -, hG⟩ := bnd_g hF; clear hF
      obtain ⟨v182, H183, z181, hF⟩ := bC_s hG; clear hG
      replace hm : Sa H H183 := hm.tr ((moX_RunE 50).1 _ _ _ z181)
      obtain ⟨v185, H186, z184, hG⟩ := bC_s hF; clear hF
      replace hm : Sa H H186 := hm.tr (m_MRunner_given z184)
      exact hm.tr (mB_MRunner_commands_107 hG)
    · clear hF
      exact hm.tr (mB_MRunner_commands_107 hG)
  · clear hF
    rcases ite_s hG with ⟨q_30, hF⟩ | ⟨q_30, hF⟩
    · clear hG
      exact hm.tr (mB_MRunner_commands_126 hF)
    · clear hG
      rcases ite_s hF with ⟨q_31, hG⟩ | ⟨q_31, hG⟩
      · clear hF
        exact hm.tr (mB_MRunner_commands_126 hG)
      · clear hF
        exact hm.tr (mB_MRunner_commands_149 hG)
set_option maxRecDepth 20000 in
set_option maxHeartbeats 2000000 in
theorem k_MRunner_commands {N : Nat} {p0 : Nat} {p1 : Int32} {H : Hp} {r : Unit × Hp} (hF : F_MRunner_commands N p0 p1 H = some r) : ab_M y_MRunner_commands { frames := 254, cells := 0, slots := 0, locals := 6237 } [.ref p0, .int p1] (hpw H) (po (.returned none) r.2) := by
  unfold F_MRunner_commands at hF
  refine ab_of2 (lv := [some (.ref p0), some (.int p1), none, none, none, none, none]) 5 rfl rfl (Nat.le_of_ble_eq_true rfl) ?_
  refine ab_aload_n d_MRunner_commands_0 rfl rfl rfl ?_
  refine ab_dup d_MRunner_commands_1 rfl ?_
  obtain ⟨q1, hG⟩ := ck_s hF; clear hF
  refine hp_getI (f := 11) d_MRunner_commands_2 q1 (by decide) rfl (by decide) (k9 194 rfl rfl) rfl ?_
  refine ab_topi (fun x2 ex2 => ?_)
  replace hG := bnd_s ex2 hG
  refine ab_iconst (v := 1) d_MRunner_commands_5 (by decide) ?_
  refine ab_iadd d_MRunner_commands_6 ?_
  refine hp_putI (v := x2 + (1 : Int32)) (f := 11) d_MRunner_commands_7 q1 (by decide) rfl (by decide) (k9 194 rfl rfl) rfl rfl (fun _ => rfl) (fun _ => rfl) rfl ?_
  refine hp_gen (fun H3 eH3 => ?_)
  replace hG := bnd_s eH3 hG
  have s_1 : Sa H H3 := by rw [eH3]; exact Sa.rf _
  refine ab_aload_n d_MRunner_commands_10 rfl rfl rfl ?_
  obtain ⟨v5, H6, z4, hF⟩ := bC_s hG; clear hG
  refine hp_callV_a (v := .int v5) (H1 := H6) (As := []) (rest := []) d_MRunner_commands_11 ((okX_RunE 50).2.2.1 _ _ _ z4) (ab_mkC s_MRunner_value (Nat.le_of_ble_eq_true rfl) (Nat.le_of_ble_eq_true rfl) (Nat.le_refl 0) (Nat.le_refl 0)) (k12 10 rfl rfl) i_MRunner_value v_MRunner_value (by rw [(s_1).1]; exact q1) (by decide) rfl rfl (Nat.le_of_ble_eq_true rfl) ?_
  have s_2 : Sa H H6 := (s_1).tr ((moX_RunE 50).1 _ _ _ z4)
  refine ab_istore_n (lv' := [some (.ref p0), some (.int p1), some (.int v5), none, none, none, none]) d_MRunner_commands_14 rfl (by decide) rfl ?_
  refine ab_aload_n d_MRunner_commands_15 rfl rfl rfl ?_
  refine ab_dup d_MRunner_commands_16 rfl ?_
  refine hp_getI (f := 11) d_MRunner_commands_17 (by rw [(s_2).1]; exact q1) (by decide) rfl (by decide) (k9 194 rfl rfl) rfl ?_
  refine ab_topi (fun x7 ex7 => ?_)
  replace hF := bnd_s ex7 hF
  refine ab_iconst (v := 1) d_MRunner_commands_20 (by decide) ?_
  refine ab_iadd d_MRunner_commands_21 ?_
  refine hp_putI (v := x7 + (1 : Int32)) (f := 11) d_MRunner_commands_22 (by rw [(s_2).1]; exact q1) (by decide) rfl (by decide) (k9 194 rfl rfl) rfl rfl (fun _ => rfl) (fun _ => rfl) rfl ?_
  refine hp_gen (fun H8 eH8 => ?_)
  replace hF := bnd_s eH8 hF
  have s_3 : Sa H H8 := by rw [eH8]; exact s_2
  refine ab_iconst (v := 0) d_MRunner_commands_25 (by decide) ?_
  refine ab_istore_n (lv' := [some (.ref p0), some (.int p1), some (.int v5), some (.int 0), none, none, none]) d_MRunner_commands_26 rfl (by decide) rfl ?_
  refine ab_iconst (v := 0) d_MRunner_commands_27 (by decide) ?_
  refine ab_istore (lv' := [some (.ref p0), some (.int p1), some (.int v5), some (.int 0), some (.int 0), none, none]) d_MRunner_commands_28 (by decide) rfl ?_
  refine ab_iconst (v := 0) d_MRunner_commands_30 (by decide) ?_
  refine ab_istore (lv' := [some (.ref p0), some (.int p1), some (.int v5), some (.int 0), some (.int 0), some (.int 0), none]) d_MRunner_commands_31 (by decide) rfl ?_
  refine ab_iload_n d_MRunner_commands_33 rfl rfl ?_
  refine ab_sipush (v := 226) d_MRunner_commands_34 (by decide) ?_
  refine ab_icmp_ne (tgt := 112) d_MRunner_commands_37 (by decide) (fun q9 => ?_) (fun q9 => ?_)
  · rw [if_neg q9] at hF
    refine ab_iload_n d_MRunner_commands_112 rfl rfl ?_
    refine ab_sipush (v := 224) d_MRunner_commands_113 (by decide) ?_
    refine ab_icmp_eq (tgt := 126) d_MRunner_commands_116 (by decide) (fun q10 => ?_) (fun q10 => ?_)
    · rw [if_pos q10] at hF
      refine ab_le (lv' := [some (.ref p0), some (.int p1), some (.int v5), none, some (.int 0), some (.int 0), none]) ⟨rfl, ⟨rfl, ⟨rfl, ⟨rfl, ⟨rfl, trivial⟩⟩⟩⟩⟩ ?_
      exact kB_MRunner_commands_126 hF
    · rw [if_neg q10] at hF
      refine ab_iload_n d_MRunner_commands_119 rfl rfl ?_
      refine ab_sipush (v := 225) d_MRunner_commands_120 (by decide) ?_
      refine ab_icmp_ne (tgt := 149) d_MRunner_commands_123 (by decide) (fun q99 => ?_) (fun q99 => ?_)
      · rw [if_neg q99] at hF
        exact kB_MRunner_commands_149 hF
      · rw [if_pos q99] at hF
        refine ab_le (lv' := [some (.ref p0), some (.int p1), some (.int v5), none, some (.int 0), some (.int 0), none]) ⟨rfl, ⟨rfl, ⟨rfl, ⟨rfl, ⟨rfl, trivial⟩⟩⟩⟩⟩ ?_
        exact kB_MRunner_commands_126 hF
  · rw [if_pos q9] at hF
    refine ab_aload_n d_MRunner_commands_40 rfl rfl rfl ?_
    obtain ⟨a100, e101, hG⟩ := rf_s hF; clear hF
    refine hp_getR (f := 0) d_MRunner_commands_41 (by rw [(s_3).1]; exact q1) (by decide) rfl (by decide) (k9 183 rfl rfl) rfl e101 ?_
    obtain ⟨q102, hF⟩ := ck_s hG; clear hG
    rw [(s_3).1] at q102
    obtain ⟨a103, e104, hG⟩ := rf_s hF; clear hF
    refine hp_getRN (f := 8) d_MRunner_commands_44 (by rw [(s_3).1]; exact q102) (by decide) rfl (by decide) (k8 170 rfl rfl) rfl e104 ?_
    refine ab_aload_n d_MRunner_commands_47 rfl rfl rfl ?_
    refine hp_getI (f := 11) d_MRunner_commands_48 (by rw [(s_3).1]; exact q1) (by decide) rfl (by decide) (k9 194 rfl rfl) rfl ?_
    refine ab_topi (fun x105 ex105 => ?_)
    replace hG := bnd_s ex105 hG
    obtain ⟨n106, q107, hF⟩ := ar_s hG; clear hG
    rw [(s_3).1] at q107
    obtain ⟨q108, hG⟩ := ck_s hF; clear hF
    refine hp_iald d_MRunner_commands_51 tI (by rw [(s_3).1]; exact q107) q108 ?_
    refine ab_topi (fun x109 ex109 => ?_)
    replace hG := bnd_s ex109 hG
    refine ab_istore_n (lv' := [some (.ref p0), some (.int p1), some (.int v5), some (.int x109), some (.int 0), some (.int 0), none]) d_MRunner_commands_52 rfl (by decide) rfl ?_
    refine ab_aload_n d_MRunner_commands_53 rfl rfl rfl ?_
    obtain ⟨a110, e111, hF⟩ := rf_s hG; clear hG
    refine hp_getR (f := 0) d_MRunner_commands_54 (by rw [(s_3).1]; exact q1) (by decide) rfl (by decide) (k9 183 rfl rfl) rfl e111 ?_
    obtain ⟨q112, hG⟩ := ck_s hF; clear hF
    rw [(s_3).1] at q112
    obtain ⟨a113, e114, hF⟩ := rf_s hG; clear hG
    refine hp_getRN (f := 8) d_MRunner_commands_57 (by rw [(s_3).1]; exact q112) (by decide) rfl (by decide) (k8 170 rfl rfl) rfl e114 ?_
    refine ab_aload_n d_MRunner_commands_60 rfl rfl rfl ?_
    refine hp_getI (f := 11) d_MRunner_commands_61 (by rw [(s_3).1]; exact q1) (by decide) rfl (by decide) (k9 194 rfl rfl) rfl ?_
    refine ab_topi (fun x115 ex115 => ?_)
    replace hF := bnd_s ex115 hF
    refine ab_iconst (v := 2) d_MRunner_commands_64 (by decide) ?_
    refine ab_iadd d_MRunner_commands_65 ?_
    obtain ⟨n116, q117, hG⟩ := ar_s hF; clear hF
    rw [(s_3).1] at q117
    obtain ⟨q118, hF⟩ := ck_s hG; clear hG
    refine hp_iald d_MRunner_commands_66 tI (by rw [(s_3).1]; exact q117) q118 ?_
    refine ab_topi (fun x119 ex119 => ?_)
    replace hF := bnd_s ex119 hF
    refine ab_istore (lv' := [some (.ref p0), some (.int p1), some (.int v5), some (.int x109), some (.int x119), some (.int 0), none]) d_MRunner_commands_67 (by decide) rfl ?_
    refine ab_aload_n d_MRunner_commands_69 rfl rfl rfl ?_
    refine ab_dup d_MRunner_commands_70 rfl ?_
    refine hp_getI (f := 11) d_MRunner_commands_71 (by rw [(s_3).1]; exact q1) (by decide) rfl (by decide) (k9 194 rfl rfl) rfl ?_
    refine ab_topi (fun x120 ex120 => ?_)
    replace hF := bnd_s ex120 hF
    refine ab_iconst (v := 4) d_MRunner_commands_74 (by decide) ?_
    refine ab_iadd d_MRunner_commands_75 ?_
    refine hp_putI (v := x120 + (4 : Int32)) (f := 11) d_MRunner_commands_76 (by rw [(s_3).1]; exact q1) (by decide) rfl (by decide) (k9 194 rfl rfl) rfl rfl (fun _ => rfl) (fun _ => rfl) rfl ?_
    refine hp_gen (fun H121 eH121 => ?_)
    replace hF := bnd_s eH121 hF
    have s_19 : Sa H H121 := by rw [eH121]; exact s_3
    refine ab_aload_n d_MRunner_commands_79 rfl rfl rfl ?_
    refine hp_getI (f := 10) d_MRunner_commands_80 (by rw [(s_19).1]; exact q1) (by decide) rfl (by decide) (k9 193 rfl rfl) rfl ?_
    refine ab_topi (fun x122 ex122 => ?_)
    replace hF := bnd_s ex122 hF
    refine ab_if_le (tgt := 90) d_MRunner_commands_83 (by decide) (fun q123 => ?_) (fun q123 => ?_)
    · rw [if_pos q123] at hF
      refine ab_aload_n d_MRunner_commands_90 rfl rfl rfl ?_
      obtain ⟨a124, e125, hG⟩ := rf_s hF; clear hF
      refine hp_getR (f := 0) d_MRunner_commands_91 (by rw [(s_19).1]; exact q1) (by decide) rfl (by decide) (k9 183 rfl rfl) rfl e125 ?_
      obtain ⟨q126, hF⟩ := ck_s hG; clear hG
      rw [(s_19).1] at q126
      obtain ⟨a127, e128, hG⟩ := rf_s hF; clear hF
      refine hp_getRN (f := 19) d_MRunner_commands_94 (by rw [(s_19).1]; exact q126) (by decide) rfl (by decide) (k8 189 rfl rfl) rfl e128 ?_
      refine ab_iload d_MRunner_commands_97 rfl ?_
      obtain ⟨n129, q130, hF⟩ := ar_s hG; clear hG
      rw [(s_19).1] at q130
      obtain ⟨q131, hG⟩ := ck_s hF; clear hF
      refine hp_iald d_MRunner_commands_99 tI (by rw [(s_19).1]; exact q130) q131 ?_
      refine ab_topi (fun x132 ex132 => ?_)
      replace hG := bnd_s ex132 hG
      refine ab_aload_n d_MRunner_commands_100 rfl rfl rfl ?_
      obtain ⟨v134, H135, z133, hF⟩ := bC_s hG; clear hG
      refine hp_callV_a (v := .int v134) (H1 := H135) (As := []) (rest := [.int x132]) d_MRunner_commands_101 ((okX_RunE 50).2.2.1 _ _ _ z133) (ab_mkC s_MRunner_value (Nat.le_of_ble_eq_true rfl) (Nat.le_of_ble_eq_true rfl) (Nat.le_refl 0) (Nat.le_refl 0)) (k12 10 rfl rfl) i_MRunner_value v_MRunner_value (by rw [(s_19).1]; exact q1) (by decide) rfl rfl (Nat.le_of_ble_eq_true rfl) ?_
      have s_20 : Sa H H135 := (s_19).tr ((moX_RunE 50).1 _ _ _ z133)
      obtain ⟨v137, H138, z136, hG⟩ := bC_s hF; clear hF
      refine hp_callS_a (v := .int v137) (H1 := H138) (As := [.int x132, .int v134]) (rest := []) d_MRunner_commands_104 (k_MRunner_given z136) (ab_mkC s_MRunner_given (Nat.le_of_ble_eq_true rfl) (Nat.le_of_ble_eq_true rfl) (Nat.le_refl 0) (Nat.le_refl 0)) (k12 85 rfl rfl) t_MRunner_given rfl (Nat.le_of_ble_eq_true rfl) ?_
      have s_21 : Sa H H138 := (s_20).tr (m_MRunner_given z136)
      refine ab_le (lv' := [some (.ref p0), some (.int p1), some (.int v5), some (.int x109), some (.int x119), none, none]) ⟨rfl, ⟨rfl, ⟨rfl, ⟨rfl, ⟨rfl, trivial⟩⟩⟩⟩⟩ ?_
      exact kB_MRunner_commands_107 hG
    · rw [if_neg q123] at hF
      refine ab_iconst (v := 0) d_MRunner_commands_86 (by decide) ?_
      refine ab_goto (tgt := 107) d_MRunner_commands_87 (by decide) ?_
      refine ab_le (lv' := [some (.ref p0), some (.int p1), some (.int v5), some (.int x109), some (.int x119), none, none]) ⟨rfl, ⟨rfl, ⟨rfl, ⟨rfl, ⟨rfl, trivial⟩⟩⟩⟩⟩ ?_
      exact kB_MRunner_commands_107 hF
