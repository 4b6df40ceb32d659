def y_M_carries : ab_Y := (⟨"WorldEngineModel", "carries", "()V"⟩, prog_14_method_14_code, 8, none, [])
theorem d_M_carries_0 : decode y_M_carries.2.1 0 = .ok (.aload_n 0, 1) := by decide +kernel
theorem d_M_carries_1 : decode y_M_carries.2.1 1 = .ok (.getfield 37, 3) := by decide +kernel
theorem d_M_carries_4 : decode y_M_carries.2.1 4 = .ok (.astore_n 1, 1) := by decide +kernel
theorem d_M_carries_5 : decode y_M_carries.2.1 5 = .ok (.aload_n 0, 1) := by decide +kernel
theorem d_M_carries_6 : decode y_M_carries.2.1 6 = .ok (.getfield 40, 3) := by decide +kernel
theorem d_M_carries_9 : decode y_M_carries.2.1 9 = .ok (.astore_n 2, 1) := by decide +kernel
theorem d_M_carries_10 : decode y_M_carries.2.1 10 = .ok (.aload_n 2, 1) := by decide +kernel
theorem d_M_carries_11 : decode y_M_carries.2.1 11 = .ok (.aload_n 1, 1) := by decide +kernel
theorem d_M_carries_12 : decode y_M_carries.2.1 12 = .ok (.invokevirtual 129, 3) := by decide +kernel
theorem d_M_carries_15 : decode y_M_carries.2.1 15 = .ok (.aload_n 2, 1) := by decide +kernel
theorem d_M_carries_16 : decode y_M_carries.2.1 16 = .ok (.iconst (-1), 1) := by decide +kernel
theorem d_M_carries_17 : decode y_M_carries.2.1 17 = .ok (.putfield 154, 3) := by decide +kernel
theorem d_M_carries_20 : decode y_M_carries.2.1 20 = .ok (.iconst 0, 1) := by decide +kernel
theorem d_M_carries_21 : decode y_M_carries.2.1 21 = .ok (.istore_n 3, 1) := by decide +kernel
theorem d_M_carries_22 : decode y_M_carries.2.1 22 = .ok (.iload_n 3, 1) := by decide +kernel
theorem d_M_carries_23 : decode y_M_carries.2.1 23 = .ok (.sipush 256, 3) := by decide +kernel
theorem d_M_carries_26 : decode y_M_carries.2.1 26 = .ok (.if_icmp .ge 237, 3) := by decide +kernel
theorem d_M_carries_29 : decode y_M_carries.2.1 29 = .ok (.aload_n 2, 1) := by decide +kernel
theorem d_M_carries_30 : decode y_M_carries.2.1 30 = .ok (.getfield 157, 3) := by decide +kernel
theorem d_M_carries_33 : decode y_M_carries.2.1 33 = .ok (.iload_n 3, 1) := by decide +kernel
theorem d_M_carries_34 : decode y_M_carries.2.1 34 = .ok (.iconst 0, 1) := by decide +kernel
theorem d_M_carries_35 : decode y_M_carries.2.1 35 = .ok (.iastore, 1) := by decide +kernel
theorem d_M_carries_36 : decode y_M_carries.2.1 36 = .ok (.iconst 0, 1) := by decide +kernel
theorem d_M_carries_37 : decode y_M_carries.2.1 37 = .ok (.istore 4, 2) := by decide +kernel
theorem d_M_carries_39 : decode y_M_carries.2.1 39 = .ok (.aload_n 1, 1) := by decide +kernel
theorem d_M_carries_40 : decode y_M_carries.2.1 40 = .ok (.getfield 158, 3) := by decide +kernel
theorem d_M_carries_43 : decode y_M_carries.2.1 43 = .ok (.iload_n 3, 1) := by decide +kernel
theorem d_M_carries_44 : decode y_M_carries.2.1 44 = .ok (.baload, 1) := by decide +kernel
theorem d_M_carries_45 : decode y_M_carries.2.1 45 = .ok (.ifCond .eq 212, 3) := by decide +kernel
theorem d_M_carries_48 : decode y_M_carries.2.1 48 = .ok (.iload 4, 2) := by decide +kernel
theorem d_M_carries_50 : decode y_M_carries.2.1 50 = .ok (.aload_n 0, 1) := by decide +kernel
theorem d_M_carries_51 : decode y_M_carries.2.1 51 = .ok (.getfield 16, 3) := by decide +kernel
theorem d_M_carries_54 : decode y_M_carries.2.1 54 = .ok (.getfield 161, 3) := by decide +kernel
theorem d_M_carries_57 : decode y_M_carries.2.1 57 = .ok (.if_icmp .ge 200, 3) := by decide +kernel
theorem d_M_carries_60 : decode y_M_carries.2.1 60 = .ok (.aload_n 1, 1) := by decide +kernel
theorem d_M_carries_61 : decode y_M_carries.2.1 61 = .ok (.getfield 157, 3) := by decide +kernel
theorem d_M_carries_64 : decode y_M_carries.2.1 64 = .ok (.iload_n 3, 1) := by decide +kernel
theorem d_M_carries_65 : decode y_M_carries.2.1 65 = .ok (.iaload, 1) := by decide +kernel
theorem d_M_carries_66 : decode y_M_carries.2.1 66 = .ok (.iload 4, 2) := by decide +kernel
theorem d_M_carries_68 : decode y_M_carries.2.1 68 = .ok (.ishr, 1) := by decide +kernel
theorem d_M_carries_69 : decode y_M_carries.2.1 69 = .ok (.iconst 1, 1) := by decide +kernel
theorem d_M_carries_70 : decode y_M_carries.2.1 70 = .ok (.iand, 1) := by decide +kernel
theorem d_M_carries_71 : decode y_M_carries.2.1 71 = .ok (.ifCond .ne 7, 3) := by decide +kernel
theorem d_M_carries_74 : decode y_M_carries.2.1 74 = .ok (.iconst (-1), 1) := by decide +kernel
theorem d_M_carries_75 : decode y_M_carries.2.1 75 = .ok (.goto 25, 3) := by decide +kernel
theorem d_M_carries_78 : decode y_M_carries.2.1 78 = .ok (.aload_n 0, 1) := by decide +kernel
theorem d_M_carries_79 : decode y_M_carries.2.1 79 = .ok (.getfield 20, 3) := by decide +kernel
theorem d_M_carries_82 : decode y_M_carries.2.1 82 = .ok (.aload_n 0, 1) := by decide +kernel
theorem d_M_carries_83 : decode y_M_carries.2.1 83 = .ok (.getfield 16, 3) := by decide +kernel
theorem d_M_carries_86 : decode y_M_carries.2.1 86 = .ok (.aload_n 0, 1) := by decide +kernel
theorem d_M_carries_87 : decode y_M_carries.2.1 87 = .ok (.getfield 16, 3) := by decide +kernel
theorem d_M_carries_90 : decode y_M_carries.2.1 90 = .ok (.getfield 164, 3) := by decide +kernel
theorem d_M_carries_93 : decode y_M_carries.2.1 93 = .ok (.iload 4, 2) := by decide +kernel
theorem d_M_carries_95 : decode y_M_carries.2.1 95 = .ok (.iaload, 1) := by decide +kernel
theorem d_M_carries_96 : decode y_M_carries.2.1 96 = .ok (.iconst 2, 1) := by decide +kernel
theorem d_M_carries_97 : decode y_M_carries.2.1 97 = .ok (.invokevirtual 167, 3) := by decide +kernel
theorem d_M_carries_100 : decode y_M_carries.2.1 100 = .ok (.istore 5, 2) := by decide +kernel
theorem d_M_carries_102 : decode y_M_carries.2.1 102 = .ok (.iload 5, 2) := by decide +kernel
theorem d_M_carries_104 : decode y_M_carries.2.1 104 = .ok (.ifCond .ge 6, 3) := by decide +kernel
theorem d_M_carries_107 : decode y_M_carries.2.1 107 = .ok (.goto 144, 3) := by decide +kernel
theorem d_M_carries_110 : decode y_M_carries.2.1 110 = .ok (.aload_n 2, 1) := by decide +kernel
theorem d_M_carries_111 : decode y_M_carries.2.1 111 = .ok (.getfield 157, 3) := by decide +kernel
theorem d_M_carries_114 : decode y_M_carries.2.1 114 = .ok (.iload_n 3, 1) := by decide +kernel
theorem d_M_carries_115 : decode y_M_carries.2.1 115 = .ok (.dup2, 1) := by decide +kernel
theorem d_M_carries_116 : decode y_M_carries.2.1 116 = .ok (.iaload, 1) := by decide +kernel
theorem d_M_carries_117 : decode y_M_carries.2.1 117 = .ok (.iconst 1, 1) := by decide +kernel
theorem d_M_carries_118 : decode y_M_carries.2.1 118 = .ok (.iload 5, 2) := by decide +kernel
theorem d_M_carries_120 : decode y_M_carries.2.1 120 = .ok (.ishl, 1) := by decide +kernel
theorem d_M_carries_121 : decode y_M_carries.2.1 121 = .ok (.ior, 1) := by decide +kernel
theorem d_M_carries_122 : decode y_M_carries.2.1 122 = .ok (.iastore, 1) := by decide +kernel
theorem d_M_carries_123 : decode y_M_carries.2.1 123 = .ok (.aload_n 0, 1) := by decide +kernel
theorem d_M_carries_124 : decode y_M_carries.2.1 124 = .ok (.getfield 20, 3) := by decide +kernel
theorem d_M_carries_127 : decode y_M_carries.2.1 127 = .ok (.getfield 171, 3) := by decide +kernel
theorem d_M_carries_130 : decode y_M_carries.2.1 130 = .ok (.iload 5, 2) := by decide +kernel
theorem d_M_carries_132 : decode y_M_carries.2.1 132 = .ok (.iaload, 1) := by decide +kernel
theorem d_M_carries_133 : decode y_M_carries.2.1 133 = .ok (.istore 6, 2) := by decide +kernel
theorem d_M_carries_135 : decode y_M_carries.2.1 135 = .ok (.iload 6, 2) := by decide +kernel
theorem d_M_carries_137 : decode y_M_carries.2.1 137 = .ok (.aload_n 0, 1) := by decide +kernel
theorem d_M_carries_138 : decode y_M_carries.2.1 138 = .ok (.getfield 20, 3) := by decide +kernel
theorem d_M_carries_141 : decode y_M_carries.2.1 141 = .ok (.getfield 171, 3) := by decide +kernel
theorem d_M_carries_144 : decode y_M_carries.2.1 144 = .ok (.iload 5, 2) := by decide +kernel
theorem d_M_carries_146 : decode y_M_carries.2.1 146 = .ok (.iconst 1, 1) := by decide +kernel
theorem d_M_carries_147 : decode y_M_carries.2.1 147 = .ok (.iadd, 1) := by decide +kernel
theorem d_M_carries_148 : decode y_M_carries.2.1 148 = .ok (.iaload, 1) := by decide +kernel
theorem d_M_carries_149 : decode y_M_carries.2.1 149 = .ok (.if_icmp .ge 102, 3) := by decide +kernel
theorem d_M_carries_152 : decode y_M_carries.2.1 152 = .ok (.aload_n 0, 1) := by decide +kernel
theorem d_M_carries_153 : decode y_M_carries.2.1 153 = .ok (.getfield 16, 3) := by decide +kernel
theorem d_M_carries_156 : decode y_M_carries.2.1 156 = .ok (.iload 4, 2) := by decide +kernel
theorem d_M_carries_158 : decode y_M_carries.2.1 158 = .ok (.aload_n 0, 1) := by decide +kernel
theorem d_M_carries_159 : decode y_M_carries.2.1 159 = .ok (.getfield 20, 3) := by decide +kernel
theorem d_M_carries_162 : decode y_M_carries.2.1 162 = .ok (.aload_n 0, 1) := by decide +kernel
theorem d_M_carries_163 : decode y_M_carries.2.1 163 = .ok (.getfield 20, 3) := by decide +kernel
theorem d_M_carries_166 : decode y_M_carries.2.1 166 = .ok (.getfield 174, 3) := by decide +kernel
theorem d_M_carries_169 : decode y_M_carries.2.1 169 = .ok (.iload 6, 2) := by decide +kernel
theorem d_M_carries_171 : decode y_M_carries.2.1 171 = .ok (.iaload, 1) := by decide +kernel
theorem d_M_carries_172 : decode y_M_carries.2.1 172 = .ok (.invokevirtual 177, 3) := by decide +kernel
theorem d_M_carries_175 : decode y_M_carries.2.1 175 = .ok (.istore 7, 2) := by decide +kernel
theorem d_M_carries_177 : decode y_M_carries.2.1 177 = .ok (.aload_n 2, 1) := by decide +kernel
theorem d_M_carries_178 : decode y_M_carries.2.1 178 = .ok (.getfield 181, 3) := by decide +kernel
theorem d_M_carries_181 : decode y_M_carries.2.1 181 = .ok (.bipush 48, 2) := by decide +kernel
theorem d_M_carries_183 : decode y_M_carries.2.1 183 = .ok (.iload_n 3, 1) := by decide +kernel
theorem d_M_carries_184 : decode y_M_carries.2.1 184 = .ok (.imul, 1) := by decide +kernel
theorem d_M_carries_185 : decode y_M_carries.2.1 185 = .ok (.iload 6, 2) := by decide +kernel
theorem d_M_carries_187 : decode y_M_carries.2.1 187 = .ok (.iadd, 1) := by decide +kernel
theorem d_M_carries_188 : decode y_M_carries.2.1 188 = .ok (.iload 7, 2) := by decide +kernel
theorem d_M_carries_190 : decode y_M_carries.2.1 190 = .ok (.ifCond .ge 19, 3) := by decide +kernel
theorem d_M_carries_193 : decode y_M_carries.2.1 193 = .ok (.aload_n 0, 1) := by decide +kernel
theorem d_M_carries_194 : decode y_M_carries.2.1 194 = .ok (.getfield 20, 3) := by decide +kernel
theorem d_M_carries_197 : decode y_M_carries.2.1 197 = .ok (.getfield 184, 3) := by decide +kernel
theorem d_M_carries_200 : decode y_M_carries.2.1 200 = .ok (.iload 6, 2) := by decide +kernel
theorem d_M_carries_202 : decode y_M_carries.2.1 202 = .ok (.iaload, 1) := by decide +kernel
theorem d_M_carries_203 : decode y_M_carries.2.1 203 = .ok (.invokestatic 187, 3) := by decide +kernel
theorem d_M_carries_206 : decode y_M_carries.2.1 206 = .ok (.goto 38, 3) := by decide +kernel
theorem d_M_carries_209 : decode y_M_carries.2.1 209 = .ok (.aload_n 0, 1) := by decide +kernel
theorem d_M_carries_210 : decode y_M_carries.2.1 210 = .ok (.getfield 16, 3) := by decide +kernel
theorem d_M_carries_213 : decode y_M_carries.2.1 213 = .ok (.getfield 184, 3) := by decide +kernel
theorem d_M_carries_216 : decode y_M_carries.2.1 216 = .ok (.iload 7, 2) := by decide +kernel
theorem d_M_carries_218 : decode y_M_carries.2.1 218 = .ok (.iaload, 1) := by decide +kernel
theorem d_M_carries_219 : decode y_M_carries.2.1 219 = .ok (.aload_n 0, 1) := by decide +kernel
theorem d_M_carries_220 : decode y_M_carries.2.1 220 = .ok (.getfield 20, 3) := by decide +kernel
theorem d_M_carries_223 : decode y_M_carries.2.1 223 = .ok (.getfield 184, 3) := by decide +kernel
theorem d_M_carries_226 : decode y_M_carries.2.1 226 = .ok (.iload 6, 2) := by decide +kernel
theorem d_M_carries_228 : decode y_M_carries.2.1 228 = .ok (.iaload, 1) := by decide +kernel
theorem d_M_carries_229 : decode y_M_carries.2.1 229 = .ok (.aload_n 1, 1) := by decide +kernel
theorem d_M_carries_230 : decode y_M_carries.2.1 230 = .ok (.getfield 181, 3) := by decide +kernel
theorem d_M_carries_233 : decode y_M_carries.2.1 233 = .ok (.bipush 48, 2) := by decide +kernel
theorem d_M_carries_235 : decode y_M_carries.2.1 235 = .ok (.iload_n 3, 1) := by decide +kernel
theorem d_M_carries_236 : decode y_M_carries.2.1 236 = .ok (.imul, 1) := by decide +kernel
theorem d_M_carries_237 : decode y_M_carries.2.1 237 = .ok (.iload 7, 2) := by decide +kernel
theorem d_M_carries_239 : decode y_M_carries.2.1 239 = .ok (.iadd, 1) := by decide +kernel
theorem d_M_carries_240 : decode y_M_carries.2.1 240 = .ok (.iaload, 1) := by decide +kernel
theorem d_M_carries_241 : decode y_M_carries.2.1 241 = .ok (.invokestatic 191, 3) := by decide +kernel
theorem d_M_carries_244 : decode y_M_carries.2.1 244 = .ok (.iastore, 1) := by decide +kernel
theorem d_M_carries_245 : decode y_M_carries.2.1 245 = .ok (.iinc 6 1, 3) := by decide +kernel
theorem d_M_carries_248 : decode y_M_carries.2.1 248 = .ok (.goto (-113), 3) := by decide +kernel
theorem d_M_carries_251 : decode y_M_carries.2.1 251 = .ok (.iinc 4 1, 3) := by decide +kernel
theorem d_M_carries_254 : decode y_M_carries.2.1 254 = .ok (.goto (-215), 3) := by decide +kernel
theorem d_M_carries_257 : decode y_M_carries.2.1 257 = .ok (.iinc 3 1, 3) := by decide +kernel
theorem d_M_carries_260 : decode y_M_carries.2.1 260 = .ok (.goto (-238), 3) := by decide +kernel
theorem d_M_carries_263 : decode y_M_carries.2.1 263 = .ok (.aload_n 2, 1) := by decide +kernel
theorem d_M_carries_264 : decode y_M_carries.2.1 264 = .ok (.iconst 0, 1) := by decide +kernel
theorem d_M_carries_265 : decode y_M_carries.2.1 265 = .ok (.putfield 195, 3) := by decide +kernel
theorem d_M_carries_268 : decode y_M_carries.2.1 268 = .ok (.iconst 0, 1) := by decide +kernel
theorem d_M_carries_269 : decode y_M_carries.2.1 269 = .ok (.istore_n 3, 1) := by decide +kernel
theorem d_M_carries_270 : decode y_M_carries.2.1 270 = .ok (.iload_n 3, 1) := by decide +kernel
theorem d_M_carries_271 : decode y_M_carries.2.1 271 = .ok (.aload_n 1, 1) := by decide +kernel
theorem d_M_carries_272 : decode y_M_carries.2.1 272 = .ok (.getfield 195, 3) := by decide +kernel
theorem d_M_carries_275 : decode y_M_carries.2.1 275 = .ok (.if_icmp .ge 90, 3) := by decide +kernel
theorem d_M_carries_278 : decode y_M_carries.2.1 278 = .ok (.aload_n 0, 1) := by decide +kernel
theorem d_M_carries_279 : decode y_M_carries.2.1 279 = .ok (.getfield 20, 3) := by decide +kernel
theorem d_M_carries_282 : decode y_M_carries.2.1 282 = .ok (.aload_n 0, 1) := by decide +kernel
theorem d_M_carries_283 : decode y_M_carries.2.1 283 = .ok (.getfield 16, 3) := by decide +kernel
theorem d_M_carries_286 : decode y_M_carries.2.1 286 = .ok (.aload_n 0, 1) := by decide +kernel
theorem d_M_carries_287 : decode y_M_carries.2.1 287 = .ok (.getfield 16, 3) := by decide +kernel
theorem d_M_carries_290 : decode y_M_carries.2.1 290 = .ok (.getfield 198, 3) := by decide +kernel
theorem d_M_carries_293 : decode y_M_carries.2.1 293 = .ok (.aload_n 1, 1) := by decide +kernel
theorem d_M_carries_294 : decode y_M_carries.2.1 294 = .ok (.getfield 201, 3) := by decide +kernel
theorem d_M_carries_297 : decode y_M_carries.2.1 297 = .ok (.iload_n 3, 1) := by decide +kernel
theorem d_M_carries_298 : decode y_M_carries.2.1 298 = .ok (.iaload, 1) := by decide +kernel
theorem d_M_carries_299 : decode y_M_carries.2.1 299 = .ok (.iaload, 1) := by decide +kernel
theorem d_M_carries_300 : decode y_M_carries.2.1 300 = .ok (.iconst 3, 1) := by decide +kernel
theorem d_M_carries_301 : decode y_M_carries.2.1 301 = .ok (.invokevirtual 167, 3) := by decide +kernel
theorem d_M_carries_304 : decode y_M_carries.2.1 304 = .ok (.istore 4, 2) := by decide +kernel
theorem d_M_carries_306 : decode y_M_carries.2.1 306 = .ok (.iload 4, 2) := by decide +kernel
theorem d_M_carries_308 : decode y_M_carries.2.1 308 = .ok (.ifCond .lt 51, 3) := by decide +kernel
theorem d_M_carries_311 : decode y_M_carries.2.1 311 = .ok (.aload_n 0, 1) := by decide +kernel
theorem d_M_carries_312 : decode y_M_carries.2.1 312 = .ok (.getfield 20, 3) := by decide +kernel
theorem d_M_carries_315 : decode y_M_carries.2.1 315 = .ok (.iload 4, 2) := by decide +kernel
theorem d_M_carries_317 : decode y_M_carries.2.1 317 = .ok (.aload_n 0, 1) := by decide +kernel
theorem d_M_carries_318 : decode y_M_carries.2.1 318 = .ok (.getfield 16, 3) := by decide +kernel
theorem d_M_carries_321 : decode y_M_carries.2.1 321 = .ok (.aload_n 1, 1) := by decide +kernel
theorem d_M_carries_322 : decode y_M_carries.2.1 322 = .ok (.getfield 201, 3) := by decide +kernel
theorem d_M_carries_325 : decode y_M_carries.2.1 325 = .ok (.iload_n 3, 1) := by decide +kernel
theorem d_M_carries_326 : decode y_M_carries.2.1 326 = .ok (.iaload, 1) := by decide +kernel
theorem d_M_carries_327 : decode y_M_carries.2.1 327 = .ok (.invokevirtual 204, 3) := by decide +kernel
theorem d_M_carries_330 : decode y_M_carries.2.1 330 = .ok (.ifCond .eq 29, 3) := by decide +kernel
theorem d_M_carries_333 : decode y_M_carries.2.1 333 = .ok (.aload_n 2, 1) := by decide +kernel
theorem d_M_carries_334 : decode y_M_carries.2.1 334 = .ok (.iload 4, 2) := by decide +kernel
theorem d_M_carries_336 : decode y_M_carries.2.1 336 = .ok (.aload_n 1, 1) := by decide +kernel
theorem d_M_carries_337 : decode y_M_carries.2.1 337 = .ok (.getfield 208, 3) := by decide +kernel
theorem d_M_carries_340 : decode y_M_carries.2.1 340 = .ok (.iload_n 3, 1) := by decide +kernel
theorem d_M_carries_341 : decode y_M_carries.2.1 341 = .ok (.iaload, 1) := by decide +kernel
theorem d_M_carries_342 : decode y_M_carries.2.1 342 = .ok (.aload_n 1, 1) := by decide +kernel
theorem d_M_carries_343 : decode y_M_carries.2.1 343 = .ok (.getfield 211, 3) := by decide +kernel
theorem d_M_carries_346 : decode y_M_carries.2.1 346 = .ok (.iload_n 3, 1) := by decide +kernel
theorem d_M_carries_347 : decode y_M_carries.2.1 347 = .ok (.iaload, 1) := by decide +kernel
theorem d_M_carries_348 : decode y_M_carries.2.1 348 = .ok (.aload_n 1, 1) := by decide +kernel
theorem d_M_carries_349 : decode y_M_carries.2.1 349 = .ok (.getfield 214, 3) := by decide +kernel
theorem d_M_carries_352 : decode y_M_carries.2.1 352 = .ok (.iconst 4, 1) := by decide +kernel
theorem d_M_carries_353 : decode y_M_carries.2.1 353 = .ok (.iload_n 3, 1) := by decide +kernel
theorem d_M_carries_354 : decode y_M_carries.2.1 354 = .ok (.imul, 1) := by decide +kernel
theorem d_M_carries_355 : decode y_M_carries.2.1 355 = .ok (.invokevirtual 217, 3) := by decide +kernel
theorem d_M_carries_358 : decode y_M_carries.2.1 358 = .ok (.pop, 1) := by decide +kernel
theorem d_M_carries_359 : decode y_M_carries.2.1 359 = .ok (.iinc 3 1, 3) := by decide +kernel
theorem d_M_carries_362 : decode y_M_carries.2.1 362 = .ok (.goto (-92), 3) := by decide +kernel
theorem d_M_carries_365 : decode y_M_carries.2.1 365 = .ok (.return_, 1) := by decide +kernel
theorem s_M_carries : ab_Stat y_M_carries 0 := ⟨(k11 173 rfl rfl), (k1 19 rfl rfl), ⟨by decide, by decide⟩, by decide +kernel⟩
theorem i_M_carries : Cond.instanceMethod y_M_carries.1 ∈ ab_T := (k11 172 rfl rfl)
theorem v_M_carries : Cond.selects "WorldEngineModel" y_M_carries.1 y_M_carries.1 ∈ ab_T := ab_s (List.mem_of_getElem? (i := 170) rfl) rfl
def B_M_carries_359 (N : Nat) (p0 : Nat) (kq270 : Nat → Nat → Int32 → Hp → Option (Unit × Hp)) (l1 : Nat) (l2 : Nat) (l3 : Int32) (H : Hp) : Option (Unit × Hp) :=
    kq270 l1 l2 (l3 + 1) H
set_option maxRecDepth 20000 in
set_option maxHeartbeats 2000000 in
theorem mB_M_carries_359 {N : Nat} {p0 : Nat} {kq270 : Nat → Nat → Int32 → Hp → Option (Unit × Hp)} (hm270 : ∀ (l1 : Nat) (l2 : Nat) (l3 : Int32) (H : Hp) (r : Unit × Hp), kq270 l1 l2 l3 H = some r → Sa H r.2) {l1 : Nat} {l2 : Nat} {l3 : Int32} {H : Hp} {r : Unit × Hp} (hF : B_M_carries_359 N p0 kq270 l1 l2 l3 H = some r) : Sa H r.2 := by
  unfold B_M_carries_359 at hF
  have hm := Sa.rf H
  exact hm.tr (hm270 l1 l2 (l3 + 1) H r hF)
set_option maxRecDepth 20000 in
set_option maxHeartbeats 2000000 in
theorem kB_M_carries_359 {N : Nat} {p0 : Nat} {kq270 : Nat → Nat → Int32 → Hp → Option (Unit × Hp)} (hm270 : ∀ (l1 : Nat) (l2 : Nat) (l3 : Int32) (H : Hp) (r : Unit × Hp), kq270 l1 l2 l3 H = some r → Sa H r.2) (hk270 : ∀ (l1 : Nat) (l2 : Nat) (l3 : Int32) (H : Hp) (r : Unit × Hp), kq270 l1 l2 l3 H = some r → ab_V y_M_carries { frames := 2, cells := 0, slots := 0, locals := 49 } (po (.returned none) r.2) 0 0 0 0 270 [some (.ref p0), some (.ref l1), some (.ref l2), some (.int l3), none, none, none, none] [] (hpw H)) {l1 : Nat} {l2 : Nat} {l3 : Int32} {H : Hp} {r : Unit × Hp} (hF : B_M_carries_359 N p0 kq270 l1 l2 l3 H = some r) : ab_V y_M_carries { frames := 2, cells := 0, slots := 0, locals := 49 } (po (.returned none) r.2) 0 0 0 0 359 [some (.ref p0), some (.ref l1), some (.ref l2), some (.int l3), none, none, none, none] [] (hpw H) := by
  unfold B_M_carries_359 at hF
  refine ab_iinc (v := l3 + 1) (lv' := [some (.ref p0), some (.ref l1), some (.ref l2), some (.int (l3 + 1)), none, none, none, none]) d_M_carries_359 rfl rfl (by decide) rfl ?_
  refine ab_goto (tgt := 270) d_M_carries_362 (by decide) ?_
  exact hk270 l1 l2 (l3 + 1) H r hF
def B_M_carries_270 (N : Nat) (p0 : Nat) : Nat → Nat → Nat → Int32 → Hp → Option (Unit × Hp)
  | 0, _, _, _, _ => none
  | n + 1, l1, l2, l3, H =>
    ck (H.sh[l1]? = some (13, 0)) <|
    bnd ((H.D l1 8)) fun x15 =>
    if x15 ≤ l3 then
    some ((), H)
    else
    ck (H.sh[p0]? = some (12, 0)) <|
    rf (H.P p0 4) fun a18 =>
    rf (H.P p0 3) fun a20 =>
    rf (H.P p0 3) fun a22 =>
    ck (H.sh[a22]? = some (14, 0)) <|
    rf (H.P a22 22) fun a25 =>
    rf (H.P l1 9) fun a27 =>
    ar H 100 a27 fun n29 =>
    ck (inb l3 n29) <|
    bnd ((H.D a27 (l3).toNatClampNeg)) fun x32 =>
    ar H 100 a25 fun n33 =>
    ck (inb x32 n33) <|
    bnd ((H.D a25 (x32).toNatClampNeg)) fun x36 =>
    ck (H.sh[a18]? = some (14, 0)) <|
    bC (F_MText_thing N a18 a20 x36 (3 : Int32) H) fun v39 H40 =>
    if v39 < (0 : Int32) then
    B_M_carries_359 N p0 (fun l1 l2 l3 H => B_M_carries_270 N p0 n l1 l2 l3 H) l1 l2 l3 H40
    else
    rf (H40.P p0 4) fun a42 =>
    rf (H40.P p0 3) fun a44 =>
    rf (H40.P l1 9) fun a46 =>
    ar H40 100 a46 fun n48 =>
    ck (inb l3 n48) <|
    bnd ((H40.D a46 (l3).toNatClampNeg)) fun x51 =>
    ck (H40.sh[a42]? = some (14, 0)) <|
    bC (F_MText_isLike N a42 v39 a44 x51 H40) fun v54 H55 =>
    if v54 = (0 : Int32) then
    B_M_carries_359 N p0 (fun l1 l2 l3 H => B_M_carries_270 N p0 n l1 l2 l3 H) l1 l2 l3 H55
    else
    rf (H55.P l1 10) fun a57 =>
    ar H55 100 a57 fun n59 =>
    ck (inb l3 n59) <|
    bnd ((H55.D a57 (l3).toNatClampNeg)) fun x62 =>
    rf (H55.P l1 11) fun a63 =>
    ar H55 100 a63 fun n65 =>
    ck (inb l3 n65) <|
    bnd ((H55.D a63 (l3).toNatClampNeg)) fun x68 =>
    rf (H55.P l1 12) fun a69 =>
    ck (H55.sh[l2]? = some (13, 0)) <|
    bC (F_MWorld_pends N l2 v39 x62 x68 a69 ((4 : Int32) * l3) H55) fun v73 H74 =>
    B_M_carries_359 N p0 (fun l1 l2 l3 H => B_M_carries_270 N p0 n l1 l2 l3 H) l1 l2 l3 H74
termination_by structural n => n
set_option maxRecDepth 20000 in
set_option maxHeartbeats 2000000 in
theorem mB_M_carries_270 {N : Nat} {p0 : Nat} : ∀ (n : Nat) (l1 : Nat) (l2 : Nat) (l3 : Int32) (H : Hp) (r : Unit × Hp), B_M_carries_270 N p0 n l1 l2 l3 H = some r → Sa H r.2 := by
  intro n
  induction n with
  | zero => intro l1 l2 l3 H r hF; rw [B_M_carries_270] at hF; cases hF
  | succ n ih =>
    intro l1 l2 l3 H r hF
    rw [B_M_carries_270] at hF
    have hm := Sa.rf H
    obtain ⟨q75, hG⟩ := ck_s hF; clear hF
    obtain ⟨x76, -, hF⟩ := bnd_g hG; clear hG
    rcases ite_s hF with ⟨q_7, hG⟩ | ⟨q_7, hG⟩
    · clear hF
      have hr := Option.some.inj hG; subst hr
      exact hm
    · clear hF
      obtain ⟨q78, hF⟩ := ck_s hG; clear hG
      obtain ⟨a79, e80, hG⟩ := rf_s hF; clear hF
      obtain ⟨a81, e82, hF⟩ := rf_s hG; clear hG
      obtain ⟨a83, e84, hG⟩ := rf_s hF; clear hF
      obtain ⟨q85, hF⟩ := ck_s hG; clear hG
      obtain ⟨a86, e87, hG⟩ := rf_s hF; clear hF
      obtain ⟨a88, e89, hF⟩ := rf_s hG; clear hG
      obtain ⟨n90, q91, hG⟩ := ar_s hF; clear hF
      obtain ⟨q92, hF⟩ := ck_s hG; clear hG
      obtain ⟨x93, -, hG⟩ := bnd_g hF; clear hF
      obtain ⟨n94, q95, hF⟩ := ar_s hG; clear hG
      obtain ⟨q96, hG⟩ := ck_s hF; clear hF
      obtain ⟨x97, -, hF⟩ := bnd_g hG; clear hG
      obtain ⟨q98, hG⟩ := ck_s hF; clear hF
      obtain ⟨v100, H101, z99, hF⟩ := bC_s hG; clear hG
      replace hm : Sa H H101 := hm.tr (m_MText_thing z99)
      rcases ite_s hF with ⟨q_9, hG⟩ | ⟨q_9, hG⟩
      · clear hF
        exact hm.tr (mB_M_carries_359 ih hG)
      · clear hF
        obtain ⟨a103, e104, hF⟩ := rf_s hG; clear hG
        obtain ⟨a105, e106, hG⟩ := rf_s hF; clear hF
        obtain ⟨a107, e108, hF⟩ := rf_s hG; clear hG
        obtain ⟨n109, q110, hG⟩ := ar_s hF; clear hF
        obtain ⟨q111, hF⟩ := ck_s hG; clear hG
        obtain ⟨x112, -, hG⟩ := bnd_g hF; clear hF
        obtain ⟨q113, hF⟩ := ck_s hG; clear hG
        obtain ⟨v115, H116, z114, hG⟩ := bC_s hF; clear hF
        replace hm : Sa H H116 := hm.tr (m_MText_isLike z114)
        rcases ite_s hG with ⟨q_11, hF⟩ | ⟨q_11, hF⟩
        · clear hG
          exact hm.tr (mB_M_carries_359 ih hF)
        · clear hG
          obtain ⟨a118, e119, hG⟩ := rf_s hF; clear hF
          obtain ⟨n120, q121, hF⟩ := ar_s hG; clear hG
          obtain ⟨q122, hG⟩ := ck_s hF; clear hF
          obtain ⟨x123, -, hF⟩ := bnd_g hG; clear hG
          obtain ⟨a124, e125, hG⟩ := rf_s hF; clear hF
          obtain ⟨n126, q127, hF⟩ := ar_s hG; clear hG
          obtain ⟨q128, hG⟩ := ck_s hF; clear hF
          obtain ⟨x129, -, hF⟩ := bnd_g hG; clear hG
          obtain ⟨a130, e131, hG⟩ := rf_s hF; clear hF
          obtain ⟨q132, hF⟩ := ck_s hG; clear hG
          obtain ⟨v134, H135, z133, hG⟩ := bC_s hF; clear hF
          replace hm : Sa H H135 := hm.tr (m_MWorld_pends z133)
          exact hm.tr (mB_M_carries_359 ih hG)
set_option maxRecDepth 20000 in
set_option maxHeartbeats 2000000 in
theorem kB_M_carries_270 {N : Nat} {p0 : Nat} : ∀ (n : Nat) (l1 : Nat) (l2 : Nat) (l3 : Int32) (H : Hp) (r : Unit × Hp), B_M_carries_270 N p0 n l1 l2 l3 H = some r → ab_V y_M_carries { frames := 2, cells := 0, slots := 0, locals := 49 } (po (.returned none) r.2) 0 0 0 0 270 [some (.ref p0), some (.ref l1), some (.ref l2), some (.int l3), none, none, none, none] [] (hpw H) := by
  intro n
  induction n with
  | zero => intro l1 l2 l3 H r hF; rw [B_M_carries_270] at hF; cases hF
  | succ n ih =>
    intro l1 l2 l3 H r hF
    rw [B_M_carries_270] at hF
    refine ab_iload_n d_M_carries_270 rfl rfl ?_
    refine ab_aload_n d_M_carries_271 rfl rfl rfl ?_
    obtain ⟨q14, hG⟩ := ck_s hF; clear hF
    refine hp_getIN (f := 8) d_M_carries_272 q14 (by decide) rfl (by decide) (k9 112 rfl rfl) rfl ?_
    refine ab_topi (fun x15 ex15 => ?_)
    replace hG := bnd_s ex15 hG
    refine ab_icmp_ge (tgt := 365) d_M_carries_275 (by decide) (fun q16 => ?_) (fun q16 => ?_)
    · rw [if_pos q16] at hG
      exact ab_vret d_M_carries_365 rfl (Nat.le_refl _) (Nat.le_refl _) (by have hr := Option.some.inj hG; subst hr; exact ⟨rfl, rfl⟩)
    · rw [if_neg q16] at hG
      refine ab_aload_n d_M_carries_278 rfl rfl rfl ?_
      obtain ⟨q17, hF⟩ := ck_s hG; clear hG
      obtain ⟨a18, e19, hG⟩ := rf_s hF; clear hF
      refine hp_getR (f := 4) d_M_carries_279 q17 (by decide) rfl (by decide) (k9 237 rfl rfl) rfl e19 ?_
      refine ab_aload_n d_M_carries_282 rfl rfl rfl ?_
      obtain ⟨a20, e21, hF⟩ := rf_s hG; clear hG
      refine hp_getR (f := 3) d_M_carries_283 q17 (by decide) rfl (by decide) (k9 236 rfl rfl) rfl e21 ?_
      refine ab_aload_n d_M_carries_286 rfl rfl rfl ?_
      obtain ⟨a22, e23, hG⟩ := rf_s hF; clear hF
      refine hp_getR (f := 3) d_M_carries_287 q17 (by decide) rfl (by decide) (k9 236 rfl rfl) rfl e23 ?_
      obtain ⟨q24, hF⟩ := ck_s hG; clear hG
      obtain ⟨a25, e26, hG⟩ := rf_s hF; clear hF
      refine hp_getRN (f := 22) d_M_carries_290 q24 (by decide) rfl (by decide) (k8 197 rfl rfl) rfl e26 ?_
      refine ab_aload_n d_M_carries_293 rfl rfl rfl ?_
      obtain ⟨a27, e28, hF⟩ := rf_s hG; clear hG
      refine hp_getRN (f := 9) d_M_carries_294 q14 (by decide) rfl (by decide) (k9 115 rfl rfl) rfl e28 ?_
      refine ab_iload_n d_M_carries_297 rfl rfl ?_
      obtain ⟨n29, q30, hG⟩ := ar_s hF; clear hF
      obtain ⟨q31, hF⟩ := ck_s hG; clear hG
      refine hp_iald d_M_carries_298 tI q30 q31 ?_
      refine ab_topi (fun x32 ex32 => ?_)
      replace hF := bnd_s ex32 hF
      obtain ⟨n33, q34, hG⟩ := ar_s hF; clear hF
      obtain ⟨q35, hF⟩ := ck_s hG; clear hG
      refine hp_iald d_M_carries_299 tI q34 q35 ?_
      refine ab_topi (fun x36 ex36 => ?_)
      replace hF := bnd_s ex36 hF
      refine ab_iconst (v := 3) d_M_carries_300 (by decide) ?_
      obtain ⟨q37, hG⟩ := ck_s hF; clear hF
      obtain ⟨v39, H40, z38, hF⟩ := bC_s hG; clear hG
      refine hp_callV_a (v := .int v39) (H1 := H40) (As := [.ref a20, .int x36, .int 3]) (rest := []) d_M_carries_301 (k_MText_thing z38) (ab_mkC s_MText_thing (Nat.le_of_ble_eq_true rfl) (Nat.le_of_ble_eq_true rfl) (Nat.le_refl 0) (Nat.le_refl 0)) (k11 174 rfl rfl) i_MText_thing v_MText_thing q37 (by decide) rfl rfl (Nat.le_of_ble_eq_true rfl) ?_
      have s_4 : Sa H H40 := (m_MText_thing z38)
      refine ab_istore (lv' := [some (.ref p0), some (.ref l1), some (.ref l2), some (.int l3), some (.int v39), none, none, none]) d_M_carries_304 (by decide) rfl ?_
      refine ab_iload d_M_carries_306 rfl ?_
      refine ab_if_lt (tgt := 359) d_M_carries_308 (by decide) (fun q41 => ?_) (fun q41 => ?_)
      · rw [if_pos q41] at hF
        refine ab_le (lv' := [some (.ref p0), some (.ref l1), some (.ref l2), some (.int l3), none, none, none, none]) ⟨rfl, ⟨rfl, ⟨rfl, ⟨rfl, trivial⟩⟩⟩⟩ ?_
        exact kB_M_carries_359 (mB_M_carries_270 n) ih hF
      · rw [if_neg q41] at hF
        refine ab_aload_n d_M_carries_311 rfl rfl rfl ?_
        obtain ⟨a42, e43, hG⟩ := rf_s hF; clear hF
        refine hp_getR (f := 4) d_M_carries_312 (by rw [(s_4).1]; exact q17) (by decide) rfl (by decide) (k9 237 rfl rfl) rfl e43 ?_
        refine ab_iload d_M_carries_315 rfl ?_
        refine ab_aload_n d_M_carries_317 rfl rfl rfl ?_
        obtain ⟨a44, e45, hF⟩ := rf_s hG; clear hG
        refine hp_getR (f := 3) d_M_carries_318 (by rw [(s_4).1]; exact q17) (by decide) rfl (by decide) (k9 236 rfl rfl) rfl e45 ?_
        refine ab_aload_n d_M_carries_321 rfl rfl rfl ?_
        obtain ⟨a46, e47, hG⟩ := rf_s hF; clear hF
        refine hp_getRN (f := 9) d_M_carries_322 (by rw [(s_4).1]; exact q14) (by decide) rfl (by decide) (k9 115 rfl rfl) rfl e47 ?_
        refine ab_iload_n d_M_carries_325 rfl rfl ?_
        obtain ⟨n48, q49, hF⟩ := ar_s hG; clear hG
        rw [(s_4).1] at q49
        obtain ⟨q50, hG⟩ := ck_s hF; clear hF
        refine hp_iald d_M_carries_326 tI (by rw [(s_4).1]; exact q49) q50 ?_
        refine ab_topi (fun x51 ex51 => ?_)
        replace hG := bnd_s ex51 hG
        obtain ⟨q52, hF⟩ := ck_s hG; clear hG
        rw [(s_4).1] at q52
        obtain ⟨v54, H55, z53, hG⟩ := bC_s hF; clear hF
        refine hp_callV_a (v := .int v54) (H1 := H55) (As := [.int v39, .ref a44, .int x51]) (rest := []) d_M_carries_327 (k_MText_isLike z53) (ab_mkC s_MText_isLike (Nat.le_of_ble_eq_true rfl) (Nat.le_of_ble_eq_true rfl) (Nat.le_refl 0) (Nat.le_refl 0)) (k11 185 rfl rfl) i_MText_isLike v_MText_isLike (by rw [(s_4).1]; exact q52) (by decide) rfl rfl (Nat.le_of_ble_eq_true rfl) ?_
        have s_5 : Sa H H55 := (s_4).tr (m_MText_isLike z53)
        refine ab_if_eq (tgt := 359) d_M_carries_330 (by decide) (fun q56 => ?_) (fun q56 => ?_)
        · rw [if_pos q56] at hG
          refine ab_le (lv' := [some (.ref p0), some (.ref l1), some (.ref l2), some (.int l3), none, none, none, none]) ⟨rfl, ⟨rfl, ⟨rfl, ⟨rfl, trivial⟩⟩⟩⟩ ?_
          exact kB_M_carries_359 (mB_M_carries_270 n) ih hG
        · rw [if_neg q56] at hG
          refine ab_aload_n d_M_carries_333 rfl rfl rfl ?_
          refine ab_iload d_M_carries_334 rfl ?_
          refine ab_aload_n d_M_carries_336 rfl rfl rfl ?_
          obtain ⟨a57, e58, hF⟩ := rf_s hG; clear hG
          refine hp_getRN (f := 10) d_M_carries_337 (by rw [(s_5).1]; exact q14) (by decide) rfl (by decide) (k9 118 rfl rfl) rfl e58 ?_
          refine ab_iload_n d_M_carries_340 rfl rfl ?_
          obtain ⟨n59, q60, hG⟩ := ar_s hF; clear hF
          rw [(s_5).1] at q60
          obtain ⟨q61, hF⟩ := ck_s hG; clear hG
          refine hp_iald d_M_carries_341 tI (by rw [(s_5).1]; exact q60) q61 ?_
          refine ab_topi (fun x62 ex62 => ?_)
          replace hF := bnd_s ex62 hF
          refine ab_aload_n d_M_carries_342 rfl rfl rfl ?_
          obtain ⟨a63, e64, hG⟩ := rf_s hF; clear hF
          refine hp_getRN (f := 11) d_M_carries_343 (by rw [(s_5).1]; exact q14) (by decide) rfl (by decide) (k9 121 rfl rfl) rfl e64 ?_
          refine ab_iload_n d_M_carries_346 rfl rfl ?_
          obtain ⟨n65, q66, hF⟩ := ar_s hG; clear hG
          rw [(s_5).1] at q66
          obtain ⟨q67, hG⟩ := ck_s hF; clear hF
          refine hp_iald d_M_carries_347 tI (by rw [(s_5).1]; exact q66) q67 ?_
          refine ab_topi (fun x68 ex68 => ?_)
          replace hG := bnd_s ex68 hG
          refine ab_aload_n d_M_carries_348 rfl rfl rfl ?_
          obtain ⟨a69, e70, hF⟩ := rf_s hG; clear hG
          refine hp_getRN (f := 12) d_M_carries_349 (by rw [(s_5).1]; exact q14) (by decide) rfl (by decide) (k9 124 rfl rfl) rfl e70 ?_
          refine ab_iconst (v := 4) d_M_carries_352 (by decide) ?_
          refine ab_iload_n d_M_carries_353 rfl rfl ?_
          refine ab_imul d_M_carries_354 ?_
          obtain ⟨q71, hG⟩ := ck_s hF; clear hF
          rw [(s_5).1] at q71
          obtain ⟨v73, H74, z72, hF⟩ := bC_s hG; clear hG
          refine hp_callV_a (v := .int v73) (H1 := H74) (As := [.int v39, .int x62, .int x68, .ref a69, .int ((4 : Int32) * l3)]) (rest := []) d_M_carries_355 (k_MWorld_pends z72) (ab_mkC s_MWorld_pends (Nat.le_of_ble_eq_true rfl) (Nat.le_of_ble_eq_true rfl) (Nat.le_refl 0) (Nat.le_refl 0)) (k11 189 rfl rfl) i_MWorld_pends v_MWorld_pends (by rw [(s_5).1]; exact q71) (by decide) rfl rfl (Nat.le_of_ble_eq_true rfl) ?_
          have s_6 : Sa H H74 := (s_5).tr (m_MWorld_pends z72)
          refine ab_pop d_M_carries_358 rfl ?_
          refine ab_le (lv' := [some (.ref p0), some (.ref l1), some (.ref l2), some (.int l3), none, none, none, none]) ⟨rfl, ⟨rfl, ⟨rfl, ⟨rfl, trivial⟩⟩⟩⟩ ?_
          exact kB_M_carries_359 (mB_M_carries_270 n) ih hF
def B_M_carries_257 (N : Nat) (p0 : Nat) (kq22 : Nat → Nat → Int32 → Hp → Option (Unit × Hp)) (l1 : Nat) (l2 : Nat) (l3 : Int32) (H : Hp) : Option (Unit × Hp) :=
    kq22 l1 l2 (l3 + 1) H
set_option maxRecDepth 20000 in
set_option maxHeartbeats 2000000 in
theorem mB_M_carries_257 {N : Nat} {p0 : Nat} {kq22 : Nat → Nat → Int32 → Hp → Option (Unit × Hp)} (hm22 : ∀ (l1 : Nat) (l2 : Nat) (l3 : Int32) (H : Hp) (r : Unit × Hp), kq22 l1 l2 l3 H = some r → Sa H r.2) {l1 : Nat} {l2 : Nat} {l3 : Int32} {H : Hp} {r : Unit × Hp} (hF : B_M_carries_257 N p0 kq22 l1 l2 l3 H = some r) : Sa H r.2 := by
  unfold B_M_carries_257 at hF
  have hm := Sa.rf H
  exact hm.tr (hm22 l1 l2 (l3 + 1) H r hF)
set_option maxRecDepth 20000 in
set_option maxHeartbeats 2000000 in
theorem kB_M_carries_257 {N : Nat} {p0 : Nat} {kq22 : Nat → Nat → Int32 → Hp → Option (Unit × Hp)} (hm22 : ∀ (l1 : Nat) (l2 : Nat) (l3 : Int32) (H : Hp) (r : Unit × Hp), kq22 l1 l2 l3 H = some r → Sa H r.2) (hk22 : ∀ (l1 : Nat) (l2 : Nat) (l3 : Int32) (H : Hp) (r : Unit × Hp), kq22 l1 l2 l3 H = some r → ab_V y_M_carries { frames := 2, cells := 0, slots := 0, locals := 49 } (po (.returned none) r.2) 0 0 0 0 22 [some (.ref p0), some (.ref l1), some (.ref l2), some (.int l3), none, none, none, none] [] (hpw H)) {l1 : Nat} {l2 : Nat} {l3 : Int32} {H : Hp} {r : Unit × Hp} (hF : B_M_carries_257 N p0 kq22 l1 l2 l3 H = some r) : ab_V y_M_carries { frames := 2, cells := 0, slots := 0, locals := 49 } (po (.returned none) r.2) 0 0 0 0 257 [some (.ref p0), some (.ref l1), some (.ref l2), some (.int l3), none, none, none, none] [] (hpw H) := by
  unfold B_M_carries_257 at hF
  refine ab_iinc (v := l3 + 1) (lv' := [some (.ref p0), some (.ref l1), some (.ref l2), some (.int (l3 + 1)), none, none, none, none]) d_M_carries_257 rfl rfl (by decide) rfl ?_
  refine ab_goto (tgt := 22) d_M_carries_260 (by decide) ?_
  exact hk22 l1 l2 (l3 + 1) H r hF
def B_M_carries_251 (N : Nat) (p0 : Nat) (kq22 : Nat → Nat → Int32 → Hp → Option (Unit × Hp)) (kq39 : Nat → Nat → Int32 → Int32 → Hp → Option (Unit × Hp)) (l1 : Nat) (l2 : Nat) (l3 : Int32) (l4 : Int32) (H : Hp) : Option (Unit × Hp) :=
    kq39 l1 l2 l3 (l4 + 1) H
set_option maxRecDepth 20000 in
set_option maxHeartbeats 2000000 in
theorem mB_M_carries_251 {N : Nat} {p0 : Nat} {kq22 : Nat → Nat → Int32 → Hp → Option (Unit × Hp)} {kq39 : Nat → Nat → Int32 → Int32 → Hp → Option (Unit × Hp)} (hm22 : ∀ (l1 : Nat) (l2 : Nat) (l3 : Int32) (H : Hp) (r : Unit × Hp), kq22 l1 l2 l3 H = some r → Sa H r.2) (hm39 : ∀ (l1 : Nat) (l2 : Nat) (l3 : Int32) (l4 : Int32) (H : Hp) (r : Unit × Hp), kq39 l1 l2 l3 l4 H = some r → Sa H r.2) {l1 : Nat} {l2 : Nat} {l3 : Int32} {l4 : Int32} {H : Hp} {r : Unit × Hp} (hF : B_M_carries_251 N p0 kq22 kq39 l1 l2 l3 l4 H = some r) : Sa H r.2 := by
  unfold B_M_carries_251 at hF
  have hm := Sa.rf H
  exact hm.tr (hm39 l1 l2 l3 (l4 + 1) H r hF)
set_option maxRecDepth 20000 in
set_option maxHeartbeats 2000000 in
theorem kB_M_carries_251 {N : Nat} {p0 : Nat} {kq22 : Nat → Nat → Int32 → Hp → Option (Unit × Hp)} {kq39 : Nat → Nat → Int32 → Int32 → Hp → Option (Unit × Hp)} (hm22 : ∀ (l1 : Nat) (l2 : Nat) (l3 : Int32) (H : Hp) (r : Unit × Hp), kq22 l1 l2 l3 H = some r → Sa H r.2) (hm39 : ∀ (l1 : Nat) (l2 : Nat) (l3 : Int32) (l4 : Int32) (H : Hp) (r : Unit × Hp), kq39 l1 l2 l3 l4 H = some r → Sa H r.2) (hk22 : ∀ (l1 : Nat) (l2 : Nat) (l3 : Int32) (H : Hp) (r : Unit × Hp), kq22 l1 l2 l3 H = some r → ab_V y_M_carries { frames := 2, cells := 0, slots := 0, locals := 49 } (po (.returned none) r.2) 0 0 0 0 22 [some (.ref p0), some (.ref l1), some (.ref l2), some (.int l3), none, none, none, none] [] (hpw H)) (hk39 : ∀ (l1 : Nat) (l2 : Nat) (l3 : Int32) (l4 : Int32) (H : Hp) (r : Unit × Hp), kq39 l1 l2 l3 l4 H = some r → ab_V y_M_carries { frames := 2, cells := 0, slots := 0, locals := 49 } (po (.returned none) r.2) 0 0 0 0 39 [some (.ref p0), some (.ref l1), some (.ref l2), some (.int l3), some (.int l4), none, none, none] [] (hpw H)) {l1 : Nat} {l2 : Nat} {l3 : Int32} {l4 : Int32} {H : Hp} {r : Unit × Hp} (hF : B_M_carries_251 N p0 kq22 kq39 l1 l2 l3 l4 H = some r) : ab_V y_M_carries { frames := 2, cells := 0, slots := 0, locals := 49 } (po (.returned none) r.2) 0 0 0 0 251 [some (.ref p0), some (.ref l1), some (.ref l2), some (.int l3), some (.int l4), none, none, none] [] (hpw H) := by
  unfold B_M_carries_251 at hF
  refine ab_iinc (v := l4 + 1) (lv' := [some (.ref p0), some (.ref l1), some (.ref l2), some (.int l3), some (.int (l4 + 1)), none, none, none]) d_M_carries_251 rfl rfl (by decide) rfl ?_
  refine ab_goto (tgt := 39) d_M_carries_254 (by decide) ?_
  exact hk39 l1 l2 l3 (l4 + 1) H r hF
def B_M_carries_244 (N : Nat) (p0 : Nat) (kq22 : Nat → Nat → Int32 → Hp → Option (Unit × Hp)) (kq39 : Nat → Nat → Int32 → Int32 → Hp → Option (Unit × Hp)) (kq135 : Nat → Nat → Int32 → Int32 → Int32 → Int32 → Hp → Option (Unit × Hp)) (l1 : Nat) (l2 : Nat) (l3 : Int32) (l4 : Int32) (l5 : Int32) (l6 : Int32) (w0 : Nat) (w1 : Int32) (w2 : Int32) (H : Hp) : Option (Unit × Hp) :=
    ar H 100 w0 fun n261 =>
    ck (inb w1 n261) <|
    bnd (H.sD w0 (w1).toNatClampNeg w2) fun H264 =>
    kq135 l1 l2 l3 l4 l5 (l6 + 1) H264
set_option maxRecDepth 20000 in
set_option maxHeartbeats 2000000 in
theorem mB_M_carries_244 {N : Nat} {p0 : Nat} {kq22 : Nat → Nat → Int32 → Hp → Option (Unit × Hp)} {kq39 : Nat → Nat → Int32 → Int32 → Hp → Option (Unit × Hp)} {kq135 : Nat → Nat → Int32 → Int32 → Int32 → Int32 → Hp → Option (Unit × Hp)} (hm22 : ∀ (l1 : Nat) (l2 : Nat) (l3 : Int32) (H : Hp) (r : Unit × Hp), kq22 l1 l2 l3 H = some r → Sa H r.2) (hm39 : ∀ (l1 : Nat) (l2 : Nat) (l3 : Int32) (l4 : Int32) (H : Hp) (r : Unit × Hp), kq39 l1 l2 l3 l4 H = some r → Sa H r.2) (hm135 : ∀ (l1 : Nat) (l2 : Nat) (l3 : Int32) (l4 : Int32) (l5 : Int32) (l6 : Int32) (H : Hp) (r : Unit × Hp), kq135 l1 l2 l3 l4 l5 l6 H = some r → Sa H r.2) {l1 : Nat} {l2 : Nat} {l3 : Int32} {l4 : Int32} {l5 : Int32} {l6 : Int32} {w0 : Nat} {w1 : Int32} {w2 : Int32} {H : Hp} {r : Unit × Hp} (hF : B_M_carries_244 N p0 kq22 kq39 kq135 l1 l2 l3 l4 l5 l6 w0 w1 w2 H = some r) : Sa H r.2 := by
  unfold B_M_carries_244 at hF
  have hm := Sa.rf H
  obtain ⟨n265, q266, hG⟩ := ar_s hF; clear hF
  obtain ⟨q267, hF⟩ := ck_s hG; clear hG
  obtain ⟨H268, eH268, hG⟩ := bnd_g hF; clear hF
  replace hm : Sa H H268 := by rw [eH268]; exact hm
  exact hm.tr (hm135 l1 l2 l3 l4 l5 (l6 + 1) H268 r hG)
set_option maxRecDepth 20000 in
set_option maxHeartbeats 2000000 in
theorem kB_M_carries_244 {N : Nat} {p0 : Nat} {kq22 : Nat → Nat → Int32 → Hp → Option (Unit × Hp)} {kq39 : Nat → Nat → Int32 → Int32 → Hp → Option (Unit × Hp)} {kq135 : Nat → Nat → Int32 → Int32 → Int32 → Int32 → Hp → Option (Unit × Hp)} (hm22 : ∀ (l1 : Nat) (l2 : Nat) (l3 : Int32) (H : Hp) (r : Unit × Hp), kq22 l1 l2 l3 H = some r → Sa H r.2) (hm39 : ∀ (l1 : Nat) (l2 : Nat) (l3 : Int32) (l4 : Int32) (H : Hp) (r : Unit × Hp), kq39 l1 l2 l3 l4 H = some r → Sa H r.2) (hm135 : ∀ (l1 : Nat) (l2 : Nat) (l3 : Int32) (l4 : Int32) (l5 : Int32) (l6 : Int32) (H : Hp) (r : Unit × Hp), kq135 l1 l2 l3 l4 l5 l6 H = some r → Sa H r.2) (hk22 : ∀ (l1 : Nat) (l2 : Nat) (l3 : Int32) (H : Hp) (r : Unit × Hp), kq22 l1 l2 l3 H = some r → ab_V y_M_carries { frames := 2, cells := 0, slots := 0, locals := 49 } (po (.returned none) r.2) 0 0 0 0 22 [some (.ref p0), some (.ref l1), some (.ref l2), some (.int l3), none, none, none, none] [] (hpw H)) (hk39 : ∀ (l1 : Nat) (l2 : Nat) (l3 : Int32) (l4 : Int32) (H : Hp) (r : Unit × Hp), kq39 l1 l2 l3 l4 H = some r → ab_V y_M_carries { frames := 2, cells := 0, slots := 0, locals := 49 } (po (.returned none) r.2) 0 0 0 0 39 [some (.ref p0), some (.ref l1), some (.ref l2), some (.int l3), some (.int l4), none, none, none] [] (hpw H)) (hk135 : ∀ (l1 : Nat) (l2 : Nat) (l3 : Int32) (l4 : Int32) (l5 : Int32) (l6 : Int32) (H : Hp) (r : Unit × Hp), kq135 l1 l2 l3 l4 l5 l6 H = some r → ab_V y_M_carries { frames := 2, cells := 0, slots := 0, locals := 49 } (po (.returned none) r.2) 0 0 0 0 135 [some (.ref p0), some (.ref l1), some (.ref l2), some (.int l3), some (.int l4), some (.int l5), some (.int l6), none] [] (hpw H)) {l1 : Nat} {l2 : Nat} {l3 : Int32} {l4 : Int32} {l5 : Int32} {l6 : Int32} {w0 : Nat} {w1 : Int32} {w2 : Int32} {H : Hp} {r : Unit × Hp} (hF : B_M_carries_244 N p0 kq22 kq39 kq135 l1 l2 l3 l4 l5 l6 w0 w1 w2 H = some r) : ab_V y_M_carries { frames := 2, cells := 0, slots := 0, locals := 49 } (po (.returned none) r.2) 0 0 0 0 244 [some (.ref p0), some (.ref l1), some (.ref l2), some (.int l3), some (.int l4), some (.int l5), some (.int l6), none] [.int w2, .int w1, .ref w0] (hpw H) := by
  unfold B_M_carries_244 at hF
  obtain ⟨n261, q262, hG⟩ := ar_s hF; clear hF
  obtain ⟨q263, hF⟩ := ck_s hG; clear hG
  refine hp_iast d_M_carries_244 tI q262 q263 ?_
  refine hp_gen (fun H264 eH264 => ?_)
  replace hF := bnd_s eH264 hF
  have s_18 : Sa H H264 := by rw [eH264]; exact Sa.rf _
  refine ab_iinc (v := l6 + 1) (lv' := [some (.ref p0), some (.ref l1), some (.ref l2), some (.int l3), some (.int l4), some (.int l5), some (.int (l6 + 1)), none]) d_M_carries_245 rfl rfl (by decide) rfl ?_
  refine ab_goto (tgt := 135) d_M_carries_248 (by decide) ?_
  exact hk135 l1 l2 l3 l4 l5 (l6 + 1) H264 r hF
def B_M_carries_135 (N : Nat) (p0 : Nat) (kq22 : Nat → Nat → Int32 → Hp → Option (Unit × Hp)) (kq39 : Nat → Nat → Int32 → Int32 → Hp → Option (Unit × Hp)) : Nat → Nat → Nat → Int32 → Int32 → Int32 → Int32 → Hp → Option (Unit × Hp)
  | 0, _, _, _, _, _, _, _ => none
  | n + 1, l1, l2, l3, l4, l5, l6, H =>
    ck (H.sh[p0]? = some (12, 0)) <|
    rf (H.P p0 4) fun a202 =>
    ck (H.sh[a202]? = some (14, 0)) <|
    rf (H.P a202 18) fun a205 =>
    ar H 100 a205 fun n207 =>
    ck (inb (l5 + (1 : Int32)) n207) <|
    bnd ((H.D a205 ((l5 + (1 : Int32))).toNatClampNeg)) fun x210 =>
    if x210 ≤ l6 then
    B_M_carries_251 N p0 kq22 kq39 l1 l2 l3 l4 H
    else
    rf (H.P p0 3) fun a212 =>
    rf (H.P p0 4) fun a214 =>
    rf (H.P p0 4) fun a216 =>
    ck (H.sh[a216]? = some (14, 0)) <|
    rf (H.P a216 20) fun a219 =>
    ar H 100 a219 fun n221 =>
    ck (inb l6 n221) <|
    bnd ((H.D a219 (l6).toNatClampNeg)) fun x224 =>
    ck (H.sh[a212]? = some (14, 0)) <|
    bC (F_MText_member N a212 l4 a214 x224 H) fun v227 H228 =>
    ck (H228.sh[l2]? = some (13, 0)) <|
    rf (H228.P l2 7) fun a230 =>
    if (0 : Int32) ≤ v227 then
    rf (H228.P p0 3) fun a233 =>
    ck (H228.sh[a233]? = some (14, 0)) <|
    rf (H228.P a233 19) fun a236 =>
    ar H228 100 a236 fun n238 =>
    ck (inb v227 n238) <|
    bnd ((H228.D a236 (v227).toNatClampNeg)) fun x241 =>
    rf (H228.P p0 4) fun a242 =>
    ck (H228.sh[a242]? = some (14, 0)) <|
    rf (H228.P a242 19) fun a245 =>
    ar H228 100 a245 fun n247 =>
    ck (inb l6 n247) <|
    bnd ((H228.D a245 (l6).toNatClampNeg)) fun x250 =>
    ck (H228.sh[l1]? = some (13, 0)) <|
    rf (H228.P l1 7) fun a252 =>
    ar H228 100 a252 fun n254 =>
    ck (inb (((48 : Int32) * l3) + v227) n254) <|
    bnd ((H228.D a252 ((((48 : Int32) * l3) + v227)).toNatClampNeg)) fun x257 =>
    bC (F_M_changed N x241 x250 x257 H228) fun v259 H260 =>
    B_M_carries_244 N p0 kq22 kq39 (fun l1 l2 l3 l4 l5 l6 H => B_M_carries_135 N p0 kq22 kq39 n l1 l2 l3 l4 l5 l6 H) l1 l2 l3 l4 l5 l6 a230 (((48 : Int32) * l3) + l6) v259 H260
    else
    rf (H228.P p0 4) fun a269 =>
    ck (H228.sh[a269]? = some (14, 0)) <|
    rf (H228.P a269 19) fun a272 =>
    ar H228 100 a272 fun n274 =>
    ck (inb l6 n274) <|
    bnd ((H228.D a272 (l6).toNatClampNeg)) fun x277 =>
    bC (F_M_first N x277 H228) fun v279 H280 =>
    B_M_carries_244 N p0 kq22 kq39 (fun l1 l2 l3 l4 l5 l6 H => B_M_carries_135 N p0 kq22 kq39 n l1 l2 l3 l4 l5 l6 H) l1 l2 l3 l4 l5 l6 a230 (((48 : Int32) * l3) + l6) v279 H280
termination_by structural n => n
set_option maxRecDepth 20000 in
set_option maxHeartbeats 2000000 in
theorem mB_M_carries_135 {N : Nat} {p0 : Nat} {kq22 : Nat → Nat → Int32 → Hp → Option (Unit × Hp)} {kq39 : Nat → Nat → Int32 → Int32 → Hp → Option (Unit × Hp)} (hm22 : ∀ (l1 : Nat) (l2 : Nat) (l3 : Int32) (H : Hp) (r : Unit × Hp), kq22 l1 l2 l3 H = some r → Sa H r.2) (hm39 : ∀ (l1 : Nat) (l2 : Nat) (l3 : Int32) (l4 : Int32) (H : Hp) (r : Unit × Hp), kq39 l1 l2 l3 l4 H = some r → Sa H r.2) : ∀ (n : Nat) (l1 : Nat) (l2 : Nat) (l3 : Int32) (l4 : Int32) (l5 : Int32) (l6 : Int32) (H : Hp) (r : Unit × Hp), B_M_carries_135 N p0 kq22 kq39 n l1 l2 l3 l4 l5 l6 H = some r → Sa H r.2 := by
  intro n
  induction n with
  | zero => intro l1 l2 l3 l4 l5 l6 H r hF; rw [B_M_carries_135] at hF; cases hF
  | succ n ih =>
    intro l1 l2 l3 l4 l5 l6 H r hF
    rw [B_M_carries_135] at hF
    have hm := Sa.rf H
    obtain ⟨q281, hG⟩ := ck_s hF; clear hF
    obtain ⟨a282, e283, hF⟩ := rf_s hG; clear hG
    obtain ⟨q284, hG⟩ := ck_s hF; clear hF
    obtain ⟨a285, e286, hF⟩ := rf_s hG; clear hG
    obtain ⟨n287, q288, hG⟩ := ar_s hF; clear hF
    obtain ⟨q289, hF⟩ := ck_s hG; clear hG
    obtain ⟨x290, -, hG⟩ := bnd_g hF; clear hF
    rcases ite_s hG with ⟨q_21, hF⟩ | ⟨q_21, hF⟩
    · clear hG
      exact hm.tr (mB_M_carries_251 hm22 hm39 hF)
    · clear hG
      obtain ⟨a292, e293, hG⟩ := rf_s hF; clear hF
      obtain ⟨a294, e295, hF⟩ := rf_s hG; clear hG
      obtain ⟨a296, e297, hG⟩ := rf_s hF; clear hF
      obtain ⟨q298, hF⟩ := ck_s hG; clear hG
      obtain ⟨a299, e300, hG⟩ := rf_s hF; clear hF
      obtain ⟨n301, q302, hF⟩ := ar_s hG; clear hG
      obtain ⟨q303, hG⟩ := ck_s hF; clear hF
      obtain ⟨x304, -, hF⟩ := bnd_g hG; clear hG
      obtain ⟨q305, hG⟩ := ck_s hF; clear hF
      obtain ⟨v307, H308, z306, hF⟩ := bC_s hG; clear hG
      replace hm : Sa H H308 := hm.tr (m_MText_member z306)
      obtain ⟨q309, hG⟩ := ck_s hF; clear hF
      obtain ⟨a310, e311, hF⟩ := rf_s hG; clear hG
      rcases ite_s hF with ⟨q_23, hG⟩ | ⟨q_23, hG⟩
      · clear hF
        obtain ⟨a313, e314, hF⟩ := rf_s hG; clear hG
        obtain ⟨q315, hG⟩ := ck_s hF; clear hF
        obtain ⟨a316, e317, hF⟩ := rf_s hG; clear hG
        obtain ⟨n318, q319, hG⟩ := ar_s hF; clear hF
        obtain ⟨q320, hF⟩ := ck_s hG; clear hG
        obtain ⟨x321, -, hG⟩ := bnd_g hF; clear hF
        obtain ⟨a322, e323, hF⟩ := rf_s hG; clear hG
        obtain ⟨q324, hG⟩ := ck_s hF; clear hF
        obtain ⟨a325, e326, hF⟩ := rf_s hG; clear hG
        obtain ⟨n327, q328, hG⟩ := ar_s hF; clear hF
        obtain ⟨q329, hF⟩ := ck_s hG; clear hG
        obtain ⟨x330, -, hG⟩ := bnd_g hF; clear hF
        obtain ⟨q331, hF⟩ := ck_s hG; clear hG
        obtain ⟨a332, e333, hG⟩ := rf_s hF; clear hF
        obtain ⟨n334, q335, hF⟩ := ar_s hG; clear hG
        obtain ⟨q336, hG⟩ := ck_s hF; clear hF
        obtain ⟨x337, -, hF⟩ := bnd_g hG; clear hG
        obtain ⟨v339, H340, z338, hG⟩ := bC_s hF; clear hF
        replace hm : Sa H H340 := hm.tr (m_M_changed z338)
        exact hm.tr (mB_M_carries_244 hm22 hm39 ih hG)
      · clear hF
        obtain ⟨a341, e342, hF⟩ := rf_s hG; clear hG
        obtain ⟨q343, hG⟩ := ck_s hF; clear hF
        obtain ⟨a344, e345, hF⟩ := rf_s hG; clear hG
        obtain ⟨n346, q347, hG⟩ := ar_s hF; clear hF
        obtain ⟨q348, hF⟩ := ck_s hG; clear hG
        obtain ⟨x349, -, hG⟩ := bnd_g hF; clear hF
        obtain ⟨v351, H352, z350, hF⟩ := bC_s hG; clear hG
        replace hm : Sa H H352 := hm.tr (m_M_first z350)
        exact hm.tr (mB_M_carries_244 hm22 hm39 ih hF)
set_option maxRecDepth 20000 in
set_option maxHeartbeats 2000000 in
theorem kB_M_carries_135 {N : Nat} {p0 : Nat} {kq22 : Nat → Nat → Int32 → Hp → Option (Unit × Hp)} {kq39 : Nat → Nat → Int32 → Int32 → Hp → Option (Unit × Hp)} (hm22 : ∀ (l1 : Nat) (l2 : Nat) (l3 : Int32) (H : Hp) (r : Unit × Hp), kq22 l1 l2 l3 H = some r → Sa H r.2) (hm39 : ∀ (l1 : Nat) (l2 : Nat) (l3 : Int32) (l4 : Int32) (H : Hp) (r : Unit × Hp), kq39 l1 l2 l3 l4 H = some r → Sa H r.2) (hk22 : ∀ (l1 : Nat) (l2 : Nat) (l3 : Int32) (H : Hp) (r : Unit × Hp), kq22 l1 l2 l3 H = some r → ab_V y_M_carries { frames := 2, cells := 0, slots := 0, locals := 49 } (po (.returned none) r.2) 0 0 0 0 22 [some (.ref p0), some (.ref l1), some (.ref l2), some (.int l3), none, none, none, none] [] (hpw H)) (hk39 : ∀ (l1 : Nat) (l2 : Nat) (l3 : Int32) (l4 : Int32) (H : Hp) (r : Unit × Hp), kq39 l1 l2 l3 l4 H = some r → ab_V y_M_carries { frames := 2, cells := 0, slots := 0, locals := 49 } (po (.returned none) r.2) 0 0 0 0 39 [some (.ref p0), some (.ref l1), some (.ref l2), some (.int l3), some (.int l4), none, none, none] [] (hpw H)) : ∀ (n : Nat) (l1 : Nat) (l2 : Nat) (l3 : Int32) (l4 : Int32) (l5 : Int32) (l6 : Int32) (H : Hp) (r : Unit × Hp), B_M_carries_135 N p0 kq22 kq39 n l1 l2 l3 l4 l5 l6 H = some r → ab_V y_M_carries { frames := 2, cells := 0, slots := 0, locals := 49 } (po (.returned none) r.2) 0 0 0 0 135 [some (.ref p0), some (.ref l1), some (.ref l2), some (.int l3), some (.int l4), some (.int l5), some (.int l6), none] [] (hpw H) := by
  intro n
  induction n with
  | zero => intro l1 l2 l3 l4 l5 l6 H r hF; rw [B_M_carries_135] at hF; cases hF
  | succ n ih =>
    intro l1 l2 l3 l4 l5 l6 H r hF
    rw [B_M_carries_135] at hF
    refine ab_iload d_M_carries_135 rfl ?_
    refine ab_aload_n d_M_carries_137 rfl rfl rfl ?_
    obtain ⟨q201, hG⟩ := ck_s hF; clear hF
    obtain ⟨a202, e203, hF⟩ := rf_s hG; clear hG
    refine hp_getR (f := 4) d_M_carries_138 q201 (by decide) rfl (by decide) (k9 237 rfl rfl) rfl e203 ?_
    obtain ⟨q204, hG⟩ := ck_s hF; clear hF
    obtain ⟨a205, e206, hF⟩ := rf_s hG; clear hG
    refine hp_getRN (f := 18) d_M_carries_141 q204 (by decide) rfl (by decide) (k8 187 rfl rfl) rfl e206 ?_
    refine ab_iload d_M_carries_144 rfl ?_
    refine ab_iconst (v := 1) d_M_carries_146 (by decide) ?_
    refine ab_iadd d_M_carries_147 ?_
    obtain ⟨n207, q208, hG⟩ := ar_s hF; clear hF
    obtain ⟨q209, hF⟩ := ck_s hG; clear hG
    refine hp_iald d_M_carries_148 tI q208 q209 ?_
    refine ab_topi (fun x210 ex210 => ?_)
    replace hF := bnd_s ex210 hF
    refine ab_icmp_ge (tgt := 251) d_M_carries_149 (by decide) (fun q211 => ?_) (fun q211 => ?_)
    · rw [if_pos q211] at hF
      refine ab_le (lv' := [some (.ref p0), some (.ref l1), some (.ref l2), some (.int l3), some (.int l4), none, none, none]) ⟨rfl, ⟨rfl, ⟨rfl, ⟨rfl, ⟨rfl, trivial⟩⟩⟩⟩⟩ ?_
      exact kB_M_carries_251 hm22 hm39 hk22 hk39 hF
    · rw [if_neg q211] at hF
      refine ab_aload_n d_M_carries_152 rfl rfl rfl ?_
      obtain ⟨a212, e213, hG⟩ := rf_s hF; clear hF
      refine hp_getR (f := 3) d_M_carries_153 q201 (by decide) rfl (by decide) (k9 236 rfl rfl) rfl e213 ?_
      refine ab_iload d_M_carries_156 rfl ?_
      refine ab_aload_n d_M_carries_158 rfl rfl rfl ?_
      obtain ⟨a214, e215, hF⟩ := rf_s hG; clear hG
      refine hp_getR (f := 4) d_M_carries_159 q201 (by decide) rfl (by decide) (k9 237 rfl rfl) rfl e215 ?_
      refine ab_aload_n d_M_carries_162 rfl rfl rfl ?_
      obtain ⟨a216, e217, hG⟩ := rf_s hF; clear hF
      refine hp_getR (f := 4) d_M_carries_163 q201 (by decide) rfl (by decide) (k9 237 rfl rfl) rfl e217 ?_
      obtain ⟨q218, hF⟩ := ck_s hG; clear hG
      obtain ⟨a219, e220, hG⟩ := rf_s hF; clear hF
      refine hp_getRN (f := 20) d_M_carries_166 q218 (by decide) rfl (by decide) (k8 193 rfl rfl) rfl e220 ?_
      refine ab_iload d_M_carries_169 rfl ?_
      obtain ⟨n221, q222, hF⟩ := ar_s hG; clear hG
      obtain ⟨q223, hG⟩ := ck_s hF; clear hF
      refine hp_iald d_M_carries_171 tI q222 q223 ?_
      refine ab_topi (fun x224 ex224 => ?_)
      replace hG := bnd_s ex224 hG
      obtain ⟨q225, hF⟩ := ck_s hG; clear hG
      obtain ⟨v227, H228, z226, hG⟩ := bC_s hF; clear hF
      refine hp_callV_a (v := .int v227) (H1 := H228) (As := [.int l4, .ref a214, .int x224]) (rest := []) d_M_carries_172 (k_MText_member z226) (ab_mkC s_MText_member (Nat.le_of_ble_eq_true rfl) (Nat.le_of_ble_eq_true rfl) (Nat.le_refl 0) (Nat.le_refl 0)) (k11 178 rfl rfl) i_MText_member v_MText_member q225 (by decide) rfl rfl (Nat.le_of_ble_eq_true rfl) ?_
      have s_16 : Sa H H228 := (m_MText_member z226)
      refine ab_istore (lv' := [some (.ref p0), some (.ref l1), some (.ref l2), some (.int l3), some (.int l4), some (.int l5), some (.int l6), some (.int v227)]) d_M_carries_175 (by decide) rfl ?_
      refine ab_aload_n d_M_carries_177 rfl rfl rfl ?_
      obtain ⟨q229, hF⟩ := ck_s hG; clear hG
      rw [(s_16).1] at q229
      obtain ⟨a230, e231, hG⟩ := rf_s hF; clear hF
      refine hp_getRN (f := 7) d_M_carries_178 (by rw [(s_16).1]; exact q229) (by decide) rfl (by decide) (k9 110 rfl rfl) rfl e231 ?_
      refine ab_bipush (v := 48) d_M_carries_181 (by decide) ?_
      refine ab_iload_n d_M_carries_183 rfl rfl ?_
      refine ab_imul d_M_carries_184 ?_
      refine ab_iload d_M_carries_185 rfl ?_
      refine ab_iadd d_M_carries_187 ?_
      refine ab_iload d_M_carries_188 rfl ?_
      refine ab_if_ge (tgt := 209) d_M_carries_190 (by decide) (fun q232 => ?_) (fun q232 => ?_)
      · rw [if_pos q232] at hG
        refine ab_aload_n d_M_carries_209 rfl rfl rfl ?_
        obtain ⟨a233, e234, hF⟩ := rf_s hG; clear hG
        refine hp_getR (f := 3) d_M_carries_210 (by rw [(s_16).1]; exact q201) (by decide) rfl (by decide) (k9 236 rfl rfl) rfl e234 ?_
        obtain ⟨q235, hG⟩ := ck_s hF; clear hF
        rw [(s_16).1] at q235
        obtain ⟨a236, e237, hF⟩ := rf_s hG; clear hG
        refine hp_getRN (f := 19) d_M_carries_213 (by rw [(s_16).1]; exact q235) (by decide) rfl (by decide) (k8 191 rfl rfl) rfl e237 ?_
        refine ab_iload d_M_carries_216 rfl ?_
        obtain ⟨n238, q239, hG⟩ := ar_s hF; clear hF
        rw [(s_16).1] at q239
        obtain ⟨q240, hF⟩ := ck_s hG; clear hG
        refine hp_iald d_M_carries_218 tI (by rw [(s_16).1]; exact q239) q240 ?_
        refine ab_topi (fun x241 ex241 => ?_)
        replace hF := bnd_s ex241 hF
        refine ab_aload_n d_M_carries_219 rfl rfl rfl ?_
        obtain ⟨a242, e243, hG⟩ := rf_s hF; clear hF
        refine hp_getR (f := 4) d_M_carries_220 (by rw [(s_16).1]; exact q201) (by decide) rfl (by decide) (k9 237 rfl rfl) rfl e243 ?_
        obtain ⟨q244, hF⟩ := ck_s hG; clear hG
        rw [(s_16).1] at q244
        obtain ⟨a245, e246, hG⟩ := rf_s hF; clear hF
        refine hp_getRN (f := 19) d_M_carries_223 (by rw [(s_16).1]; exact q244) (by decide) rfl (by decide) (k8 191 rfl rfl) rfl e246 ?_
        refine ab_iload d_M_carries_226 rfl ?_
        obtain ⟨n247, q248, hF⟩ := ar_s hG; clear hG
        rw [(s_16).1] at q248
        obtain ⟨q249, hG⟩ := ck_s hF; clear hF
        refine hp_iald d_M_carries_228 tI (by rw [(s_16).1]; exact q248) q249 ?_
        refine ab_topi (fun x250 ex250 => ?_)
        replace hG := bnd_s ex250 hG
        refine ab_aload_n d_M_carries_229 rfl rfl rfl ?_
        obtain ⟨q251, hF⟩ := ck_s hG; clear hG
        rw [(s_16).1] at q251
        obtain ⟨a252, e253, hG⟩ := rf_s hF; clear hF
        refine hp_getRN (f := 7) d_M_carries_230 (by rw [(s_16).1]; exact q251) (by decide) rfl (by decide) (k9 110 rfl rfl) rfl e253 ?_
        refine ab_bipush (v := 48) d_M_carries_233 (by decide) ?_
        refine ab_iload_n d_M_carries_235 rfl rfl ?_
        refine ab_imul d_M_carries_236 ?_
        refine ab_iload d_M_carries_237 rfl ?_
        refine ab_iadd d_M_carries_239 ?_
        obtain ⟨n254, q255, hF⟩ := ar_s hG; clear hG
        rw [(s_16).1] at q255
        obtain ⟨q256, hG⟩ := ck_s hF; clear hF
        refine hp_iald d_M_carries_240 tI (by rw [(s_16).1]; exact q255) q256 ?_
        refine ab_topi (fun x257 ex257 => ?_)
        replace hG := bnd_s ex257 hG
        obtain ⟨v259, H260, z258, hF⟩ := bC_s hG; clear hG
        refine hp_callS_a (v := .int v259) (H1 := H260) (As := [.int x241, .int x250, .int x257]) (rest := [.int (((48 : Int32) * l3) + l6), .ref a230]) d_M_carries_241 (k_M_changed z258) (ab_mkC s_M_changed (Nat.le_of_ble_eq_true rfl) (Nat.le_of_ble_eq_true rfl) (Nat.le_refl 0) (Nat.le_refl 0)) (k11 180 rfl rfl) t_M_changed rfl (Nat.le_of_ble_eq_true rfl) ?_
        have s_17 : Sa H H260 := (s_16).tr (m_M_changed z258)
        refine ab_le (lv' := [some (.ref p0), some (.ref l1), some (.ref l2), some (.int l3), some (.int l4), some (.int l5), some (.int l6), none]) ⟨rfl, ⟨rfl, ⟨rfl, ⟨rfl, ⟨rfl, ⟨rfl, ⟨rfl, trivial⟩⟩⟩⟩⟩⟩⟩ ?_
        exact kB_M_carries_244 hm22 hm39 (mB_M_carries_135 hm22 hm39 n) hk22 hk39 ih hF
      · rw [if_neg q232] at hG
        refine ab_aload_n d_M_carries_193 rfl rfl rfl ?_
        obtain ⟨a269, e270, hF⟩ := rf_s hG; clear hG
        refine hp_getR (f := 4) d_M_carries_194 (by rw [(s_16).1]; exact q201) (by decide) rfl (by decide) (k9 237 rfl rfl) rfl e270 ?_
        obtain ⟨q271, hG⟩ := ck_s hF; clear hF
        rw [(s_16).1] at q271
        obtain ⟨a272, e273, hF⟩ := rf_s hG; clear hG
        refine hp_getRN (f := 19) d_M_carries_197 (by rw [(s_16).1]; exact q271) (by decide) rfl (by decide) (k8 191 rfl rfl) rfl e273 ?_
        refine ab_iload d_M_carries_200 rfl ?_
        obtain ⟨n274, q275, hG⟩ := ar_s hF; clear hF
        rw [(s_16).1] at q275
        obtain ⟨q276, hF⟩ := ck_s hG; clear hG
        refine hp_iald d_M_carries_202 tI (by rw [(s_16).1]; exact q275) q276 ?_
        refine ab_topi (fun x277 ex277 => ?_)
        replace hF := bnd_s ex277 hF
        obtain ⟨v279, H280, z278, hG⟩ := bC_s hF; clear hF
        refine hp_callS_a (v := .int v279) (H1 := H280) (As := [.int x277]) (rest := [.int (((48 : Int32) * l3) + l6), .ref a230]) d_M_carries_203 (k_M_first z278) (ab_mkC s_M_first (Nat.le_of_ble_eq_true rfl) (Nat.le_of_ble_eq_true rfl) (Nat.le_refl 0) (Nat.le_refl 0)) (k11 179 rfl rfl) t_M_first rfl (Nat.le_of_ble_eq_true rfl) ?_
        have s_20 : Sa H H280 := (s_16).tr (m_M_first z278)
        refine ab_goto (tgt := 244) d_M_carries_206 (by decide) ?_
        refine ab_le (lv' := [some (.ref p0), some (.ref l1), some (.ref l2), some (.int l3), some (.int l4), some (.int l5), some (.int l6), none]) ⟨rfl, ⟨rfl, ⟨rfl, ⟨rfl, ⟨rfl, ⟨rfl, ⟨rfl, trivial⟩⟩⟩⟩⟩⟩⟩ ?_
        exact kB_M_carries_244 hm22 hm39 (mB_M_carries_135 hm22 hm39 n) hk22 hk39 ih hG
def B_M_carries_100 (N : Nat) (p0 : Nat) (kq22 : Nat → Nat → Int32 → Hp → Option (Unit × Hp)) (kq39 : Nat → Nat → Int32 → Int32 → Hp → Option (Unit × Hp)) (l1 : Nat) (l2 : Nat) (l3 : Int32) (l4 : Int32) (w0 : Int32) (H : Hp) : Option (Unit × Hp) :=
    if (0 : Int32) ≤ w0 then
    ck (H.sh[l2]? = some (13, 0)) <|
    rf (H.P l2 6) fun a183 =>
    ar H 100 a183 fun n185 =>
    ck (inb l3 n185) <|
    bnd ((H.D a183 (l3).toNatClampNeg)) fun x188 =>
    ck (inb l3 n185) <|
    bnd (H.sD a183 (l3).toNatClampNeg (x188 ||| ((1 : Int32) <<< (w0 &&& 31)))) fun H190 =>
    ck (H190.sh[p0]? = some (12, 0)) <|
    rf (H190.P p0 4) fun a192 =>
    ck (H190.sh[a192]? = some (14, 0)) <|
    rf (H190.P a192 18) fun a195 =>
    ar H190 100 a195 fun n197 =>
    ck (inb w0 n197) <|
    bnd ((H190.D a195 (w0).toNatClampNeg)) fun x200 =>
    B_M_carries_135 N p0 kq22 kq39 N l1 l2 l3 l4 w0 x200 H190
    else
    B_M_carries_251 N p0 kq22 kq39 l1 l2 l3 l4 H
set_option maxRecDepth 20000 in
set_option maxHeartbeats 2000000 in
theorem mB_M_carries_100 {N : Nat} {p0 : Nat} {kq22 : Nat → Nat → Int32 → Hp → Option (Unit × Hp)} {kq39 : Nat → Nat → Int32 → Int32 → Hp → Option (Unit × Hp)} (hm22 : ∀ (l1 : Nat) (l2 : Nat) (l3 : Int32) (H : Hp) (r : Unit × Hp), kq22 l1 l2 l3 H = some r → Sa H r.2) (hm39 : ∀ (l1 : Nat) (l2 : Nat) (l3 : Int32) (l4 : Int32) (H : Hp) (r : Unit × Hp), kq39 l1 l2 l3 l4 H = some r → Sa H r.2) {l1 : Nat} {l2 : Nat} {l3 : Int32} {l4 : Int32} {w0 : Int32} {H : Hp} {r : Unit × Hp} (hF : B_M_carries_100 N p0 kq22 kq39 l1 l2 l3 l4 w0 H = some r) : Sa H r.2 := by
  unfold B_M_carries_100 at hF
  have hm := Sa.rf H
  rcases ite_s hF with ⟨q_26, hG⟩ | ⟨q_26, hG⟩
  · clear hF
    obtain ⟨q354, hF⟩ := ck_s hG; clear hG
    obtain ⟨a355, e356, hG⟩ := rf_s hF; clear hF
    obtain ⟨n357, q358, hF⟩ := ar_s hG; clear hG
    obtain ⟨q359, hG⟩ := ck_s hF; clear hF
    obtain ⟨x360, -, hF⟩ := bnd_g hG; clear hG
    obtain ⟨q361, hG⟩ := ck_s hF; clear hF
    obtain ⟨H362, eH362, hF⟩ := bnd_g hG; clear hG
    replace hm : Sa H H362 := by rw [eH362]; exact hm
    obtain ⟨q363, hG⟩ := ck_s hF; clear hF
    obtain ⟨a364, e365, hF⟩ := rf_s hG; clear hG
    obtain ⟨q366, hG⟩ := ck_s hF; clear hF
    obtain ⟨a367, e368, hF⟩ := rf_s hG; clear hG
    obtain ⟨n369, q370, hG⟩ := ar_s hF; clear hF
    obtain ⟨q371, hF⟩ := ck_s hG; clear hG
    obtain ⟨x372, -, hG⟩ := bnd_g hF; clear hF
    exact hm.tr (mB_M_carries_135 hm22 hm39 N l1 l2 l3 l4 w0 x372 H362 r hG)
  · clear hF
    exact hm.tr (mB_M_carries_251 hm22 hm39 hG)
set_option maxRecDepth 20000 in
set_option maxHeartbeats 2000000 in
theorem kB_M_carries_100 {N : Nat} {p0 : Nat} {kq22 : Nat → Nat → Int32 → Hp → Option (Unit × Hp)} {kq39 : Nat → Nat → Int32 → Int32 → Hp → Option (Unit × Hp)} (hm22 : ∀ (l1 : Nat) (l2 : Nat) (l3 : Int32) (H : Hp) (r : Unit × Hp), kq22 l1 l2 l3 H = some r → Sa H r.2) (hm39 : ∀ (l1 : Nat) (l2 : Nat) (l3 : Int32) (l4 : Int32) (H : Hp) (r : Unit × Hp), kq39 l1 l2 l3 l4 H = some r → Sa H r.2) (hk22 : ∀ (l1 : Nat) (l2 : Nat) (l3 : Int32) (H : Hp) (r : Unit × Hp), kq22 l1 l2 l3 H = some r → ab_V y_M_carries { frames := 2, cells := 0, slots := 0, locals := 49 } (po (.returned none) r.2) 0 0 0 0 22 [some (.ref p0), some (.ref l1), some (.ref l2), some (.int l3), none, none, none, none] [] (hpw H)) (hk39 : ∀ (l1 : Nat) (l2 : Nat) (l3 : Int32) (l4 : Int32) (H : Hp) (r : Unit × Hp), kq39 l1 l2 l3 l4 H = some r → ab_V y_M_carries { frames := 2, cells := 0, slots := 0, locals := 49 } (po (.returned none) r.2) 0 0 0 0 39 [some (.ref p0), some (.ref l1), some (.ref l2), some (.int l3), some (.int l4), none, none, none] [] (hpw H)) {l1 : Nat} {l2 : Nat} {l3 : Int32} {l4 : Int32} {w0 : Int32} {H : Hp} {r : Unit × Hp} (hF : B_M_carries_100 N p0 kq22 kq39 l1 l2 l3 l4 w0 H = some r) : ab_V y_M_carries { frames := 2, cells := 0, slots := 0, locals := 49 } (po (.returned none) r.2) 0 0 0 0 100 [some (.ref p0), some (.ref l1), some (.ref l2), some (.int l3), some (.int l4), none, none, none] [.int w0] (hpw H) := by
  unfold B_M_carries_100 at hF
  refine ab_istore (lv' := [some (.ref p0), some (.ref l1), some (.ref l2), some (.int l3), some (.int l4), some (.int w0), none, none]) d_M_carries_100 (by decide) rfl ?_
  refine ab_iload d_M_carries_102 rfl ?_
  refine ab_if_ge (tgt := 110) d_M_carries_104 (by decide) (fun q181 => ?_) (fun q181 => ?_)
  · rw [if_pos q181] at hF
    refine ab_aload_n d_M_carries_110 rfl rfl rfl ?_
    obtain ⟨q182, hG⟩ := ck_s hF; clear hF
    obtain ⟨a183, e184, hF⟩ := rf_s hG; clear hG
    refine hp_getRN (f := 6) d_M_carries_111 q182 (by decide) rfl (by decide) (k9 106 rfl rfl) rfl e184 ?_
    refine ab_iload_n d_M_carries_114 rfl rfl ?_
    refine ab_dup2_11 d_M_carries_115 rfl rfl ?_
    obtain ⟨n185, q186, hG⟩ := ar_s hF; clear hF
    obtain ⟨q187, hF⟩ := ck_s hG; clear hG
    refine hp_iald d_M_carries_116 tI q186 q187 ?_
    refine ab_topi (fun x188 ex188 => ?_)
    replace hF := bnd_s ex188 hF
    refine ab_iconst (v := 1) d_M_carries_117 (by decide) ?_
    refine ab_iload d_M_carries_118 rfl ?_
    refine ab_ishl d_M_carries_120 ?_
    refine ab_ior d_M_carries_121 ?_
    obtain ⟨q189, hG⟩ := ck_s hF; clear hF
    refine hp_iast d_M_carries_122 tI q186 q189 ?_
    refine hp_gen (fun H190 eH190 => ?_)
    replace hG := bnd_s eH190 hG
    have s_15 : Sa H H190 := by rw [eH190]; exact Sa.rf _
    refine ab_aload_n d_M_carries_123 rfl rfl rfl ?_
    obtain ⟨q191, hF⟩ := ck_s hG; clear hG
    rw [(s_15).1] at q191
    obtain ⟨a192, e193, hG⟩ := rf_s hF; clear hF
    refine hp_getR (f := 4) d_M_carries_124 (by rw [(s_15).1]; exact q191) (by decide) rfl (by decide) (k9 237 rfl rfl) rfl e193 ?_
    obtain ⟨q194, hF⟩ := ck_s hG; clear hG
    rw [(s_15).1] at q194
    obtain ⟨a195, e196, hG⟩ := rf_s hF; clear hF
    refine hp_getRN (f := 18) d_M_carries_127 (by rw [(s_15).1]; exact q194) (by decide) rfl (by decide) (k8 187 rfl rfl) rfl e196 ?_
    refine ab_iload d_M_carries_130 rfl ?_
    obtain ⟨n197, q198, hF⟩ := ar_s hG; clear hG
    rw [(s_15).1] at q198
    obtain ⟨q199, hG⟩ := ck_s hF; clear hF
    refine hp_iald d_M_carries_132 tI (by rw [(s_15).1]; exact q198) q199 ?_
    refine ab_topi (fun x200 ex200 => ?_)
    replace hG := bnd_s ex200 hG
    refine ab_istore (lv' := [some (.ref p0), some (.ref l1), some (.ref l2), some (.int l3), some (.int l4), some (.int w0), some (.int x200), none]) d_M_carries_133 (by decide) rfl ?_
    exact kB_M_carries_135 hm22 hm39 hk22 hk39 N l1 l2 l3 l4 w0 x200 H190 r hG
  · rw [if_neg q181] at hF
    refine ab_goto (tgt := 251) d_M_carries_107 (by decide) ?_
    refine ab_le (lv' := [some (.ref p0), some (.ref l1), some (.ref l2), some (.int l3), some (.int l4), none, none, none]) ⟨rfl, ⟨rfl, ⟨rfl, ⟨rfl, ⟨rfl, trivial⟩⟩⟩⟩⟩ ?_
    exact kB_M_carries_251 hm22 hm39 hk22 hk39 hF
def B_M_carries_39 (N : Nat) (p0 : Nat) (kq22 : Nat → Nat → Int32 → Hp → Option (Unit × Hp)) : Nat → Nat → Nat → Int32 → Int32 → Hp → Option (Unit × Hp)
  | 0, _, _, _, _, _ => none
  | n + 1, l1, l2, l3, l4, H =>
    ck (H.sh[l1]? = some (13, 0)) <|
    rf (H.P l1 5) fun a144 =>
    ar H 102 a144 fun n146 =>
    ck (inb l3 n146) <|
    bnd ((H.D a144 (l3).toNatClampNeg)) fun x149 =>
    if x149 = (0 : Int32) then
    B_M_carries_257 N p0 kq22 l1 l2 l3 H
    else
    ck (H.sh[p0]? = some (12, 0)) <|
    rf (H.P p0 3) fun a152 =>
    ck (H.sh[a152]? = some (14, 0)) <|
    bnd ((H.D a152 16)) fun x155 =>
    if x155 ≤ l4 then
    B_M_carries_257 N p0 kq22 l1 l2 l3 H
    else
    rf (H.P l1 6) fun a157 =>
    ar H 100 a157 fun n159 =>
    ck (inb l3 n159) <|
    bnd ((H.D a157 (l3).toNatClampNeg)) fun x162 =>
    if ((x162 >>> (l4 &&& 31)) &&& (1 : Int32)) = (0 : Int32) then
    B_M_carries_100 N p0 kq22 (fun l1 l2 l3 l4 H => B_M_carries_39 N p0 kq22 n l1 l2 l3 l4 H) l1 l2 l3 l4 (-1) H
    else
    rf (H.P p0 4) fun a164 =>
    rf (H.P p0 3) fun a166 =>
    rf (H.P p0 3) fun a168 =>
    ck (H.sh[a168]? = some (14, 0)) <|
    rf (H.P a168 17) fun a171 =>
    ar H 100 a171 fun n173 =>
    ck (inb l4 n173) <|
    bnd ((H.D a171 (l4).toNatClampNeg)) fun x176 =>
    ck (H.sh[a164]? = some (14, 0)) <|
    bC (F_MText_thing N a164 a166 x176 (2 : Int32) H) fun v179 H180 =>
    B_M_carries_100 N p0 kq22 (fun l1 l2 l3 l4 H => B_M_carries_39 N p0 kq22 n l1 l2 l3 l4 H) l1 l2 l3 l4 v179 H180
termination_by structural n => n
set_option maxRecDepth 20000 in
set_option maxHeartbeats 2000000 in
theorem mB_M_carries_39 {N : Nat} {p0 : Nat} {kq22 : Nat → Nat → Int32 → Hp → Option (Unit × Hp)} (hm22 : ∀ (l1 : Nat) (l2 : Nat) (l3 : Int32) (H : Hp) (r : Unit × Hp), kq22 l1 l2 l3 H = some r → Sa H r.2) : ∀ (n : Nat) (l1 : Nat) (l2 : Nat) (l3 : Int32) (l4 : Int32) (H : Hp) (r : Unit × Hp), B_M_carries_39 N p0 kq22 n l1 l2 l3 l4 H = some r → Sa H r.2 := by
  intro n
  induction n with
  | zero => intro l1 l2 l3 l4 H r hF; rw [B_M_carries_39] at hF; cases hF
  | succ n ih =>
    intro l1 l2 l3 l4 H r hF
    rw [B_M_carries_39] at hF
    have hm := Sa.rf H
    obtain ⟨q373, hG⟩ := ck_s hF; clear hF
    obtain ⟨a374, e375, hF⟩ := rf_s hG; clear hG
    obtain ⟨n376, q377, hG⟩ := ar_s hF; clear hF
    obtain ⟨q378, hF⟩ := ck_s hG; clear hG
    obtain ⟨x379, -, hG⟩ := bnd_g hF; clear hF
    rcases ite_s hG with ⟨q_28, hF⟩ | ⟨q_28, hF⟩
    · clear hG
      exact hm.tr (mB_M_carries_257 hm22 hF)
    · clear hG
      obtain ⟨q381, hG⟩ := ck_s hF; clear hF
      obtain ⟨a382, e383, hF⟩ := rf_s hG; clear hG
      obtain ⟨q384, hG⟩ := ck_s hF; clear hF
      obtain ⟨x385, -, hF⟩ := bnd_g hG; clear hG
      rcases ite_s hF with ⟨q_29, hG⟩ | ⟨q_29, hG⟩
      · clear hF
        exact hm.tr (mB_M_carries_257 hm22 hG)
      · clear hF
        obtain ⟨a387, e388, hF⟩ := rf_s hG; clear hG
        obtain ⟨n389, q390, hG⟩ := ar_s hF; clear hF
        obtain ⟨q391, hF⟩ := ck_s hG; clear hG
        obtain ⟨x392, -, hG⟩ := bnd_g hF; clear hF
        rcases ite_s hG with ⟨q_30, hF⟩ | ⟨q_30, hF⟩
        · clear hG
          exact hm.tr (mB_M_carries_100 hm22 ih hF)
        · clear hG
          obtain ⟨a394, e395, hG⟩ := rf_s hF; clear hF
          obtain ⟨a396, e397, hF⟩ := rf_s hG; clear hG
          obtain ⟨a398, e399, hG⟩ := rf_s hF; clear hF
          obtain ⟨q400, hF⟩ := ck_s hG; clear hG
          obtain ⟨a401, e402, hG⟩ := rf_s hF; clear hF
          obtain ⟨n403, q404, hF⟩ := ar_s hG; clear hG
          obtain ⟨q405, hG⟩ := ck_s hF; clear hF
          obtain ⟨x406, -, hF⟩ := bnd_g hG; clear hG
          obtain ⟨q407, hG⟩ := ck_s hF; clear hF
          obtain ⟨v409, H410, z408, hF⟩ := bC_s hG; clear hG
          replace hm : Sa H H410 := hm.tr (m_MText_thing z408)
          exact hm.tr (mB_M_carries_100 hm22 ih hF)
set_option maxRecDepth 20000 in
set_option maxHeartbeats 2000000 in
theorem kB_M_carries_39 {N : Nat} {p0 : Nat} {kq22 : Nat → Nat → Int32 → Hp → Option (Unit × Hp)} (hm22 : ∀ (l1 : Nat) (l2 : Nat) (l3 : Int32) (H : Hp) (r : Unit × Hp), kq22 l1 l2 l3 H = some r → Sa H r.2) (hk22 : ∀ (l1 : Nat) (l2 : Nat) (l3 : Int32) (H : Hp) (r : Unit × Hp), kq22 l1 l2 l3 H = some r → ab_V y_M_carries { frames := 2, cells := 0, slots := 0, locals := 49 } (po (.returned none) r.2) 0 0 0 0 22 [some (.ref p0), some (.ref l1), some (.ref l2), some (.int l3), none, none, none, none] [] (hpw H)) : ∀ (n : Nat) (l1 : Nat) (l2 : Nat) (l3 : Int32) (l4 : Int32) (H : Hp) (r : Unit × Hp), B_M_carries_39 N p0 kq22 n l1 l2 l3 l4 H = some r → ab_V y_M_carries { frames := 2, cells := 0, slots := 0, locals := 49 } (po (.returned none) r.2) 0 0 0 0 39 [some (.ref p0), some (.ref l1), some (.ref l2), some (.int l3), some (.int l4), none, none, none] [] (hpw H) := by
  intro n
  induction n with
  | zero => intro l1 l2 l3 l4 H r hF; rw [B_M_carries_39] at hF; cases hF
  | succ n ih =>
    intro l1 l2 l3 l4 H r hF
    rw [B_M_carries_39] at hF
    refine ab_aload_n d_M_carries_39 rfl rfl rfl ?_
    obtain ⟨q143, hG⟩ := ck_s hF; clear hF
    obtain ⟨a144, e145, hF⟩ := rf_s hG; clear hG
    refine hp_getRN (f := 5) d_M_carries_40 q143 (by decide) rfl (by decide) (k9 102 rfl rfl) rfl e145 ?_
    refine ab_iload_n d_M_carries_43 rfl rfl ?_
    obtain ⟨n146, q147, hG⟩ := ar_s hF; clear hF
    obtain ⟨q148, hF⟩ := ck_s hG; clear hG
    refine hp_zald d_M_carries_44 tZ q147 q148 ?_
    refine ab_topi (fun x149 ex149 => ?_)
    replace hF := bnd_s ex149 hF
    refine ab_if_eq (tgt := 257) d_M_carries_45 (by decide) (fun q150 => ?_) (fun q150 => ?_)
    · rw [if_pos q150] at hF
      refine ab_le (lv' := [some (.ref p0), some (.ref l1), some (.ref l2), some (.int l3), none, none, none, none]) ⟨rfl, ⟨rfl, ⟨rfl, ⟨rfl, trivial⟩⟩⟩⟩ ?_
      exact kB_M_carries_257 hm22 hk22 hF
    · rw [if_neg q150] at hF
      refine ab_iload d_M_carries_48 rfl ?_
      refine ab_aload_n d_M_carries_50 rfl rfl rfl ?_
      obtain ⟨q151, hG⟩ := ck_s hF; clear hF
      obtain ⟨a152, e153, hF⟩ := rf_s hG; clear hG
      refine hp_getR (f := 3) d_M_carries_51 q151 (by decide) rfl (by decide) (k9 236 rfl rfl) rfl e153 ?_
      obtain ⟨q154, hG⟩ := ck_s hF; clear hF
      refine hp_getIN (f := 16) d_M_carries_54 q154 (by decide) rfl (by decide) (k8 180 rfl rfl) rfl ?_
      refine ab_topi (fun x155 ex155 => ?_)
      replace hG := bnd_s ex155 hG
      refine ab_icmp_ge (tgt := 257) d_M_carries_57 (by decide) (fun q156 => ?_) (fun q156 => ?_)
      · rw [if_pos q156] at hG
        refine ab_le (lv' := [some (.ref p0), some (.ref l1), some (.ref l2), some (.int l3), none, none, none, none]) ⟨rfl, ⟨rfl, ⟨rfl, ⟨rfl, trivial⟩⟩⟩⟩ ?_
        exact kB_M_carries_257 hm22 hk22 hG
      · rw [if_neg q156] at hG
        refine ab_aload_n d_M_carries_60 rfl rfl rfl ?_
        obtain ⟨a157, e158, hF⟩ := rf_s hG; clear hG
        refine hp_getRN (f := 6) d_M_carries_61 q143 (by decide) rfl (by decide) (k9 106 rfl rfl) rfl e158 ?_
        refine ab_iload_n d_M_carries_64 rfl rfl ?_
        obtain ⟨n159, q160, hG⟩ := ar_s hF; clear hF
        obtain ⟨q161, hF⟩ := ck_s hG; clear hG
        refine hp_iald d_M_carries_65 tI q160 q161 ?_
        refine ab_topi (fun x162 ex162 => ?_)
        replace hF := bnd_s ex162 hF
        refine ab_iload d_M_carries_66 rfl ?_
        refine ab_ishr d_M_carries_68 ?_
        refine ab_iconst (v := 1) d_M_carries_69 (by decide) ?_
        refine ab_iand d_M_carries_70 ?_
        refine ab_if_ne (tgt := 78) d_M_carries_71 (by decide) (fun q163 => ?_) (fun q163 => ?_)
        · rw [if_neg q163] at hF
          refine ab_aload_n d_M_carries_78 rfl rfl rfl ?_
          obtain ⟨a164, e165, hG⟩ := rf_s hF; clear hF
          refine hp_getR (f := 4) d_M_carries_79 q151 (by decide) rfl (by decide) (k9 237 rfl rfl) rfl e165 ?_
          refine ab_aload_n d_M_carries_82 rfl rfl rfl ?_
          obtain ⟨a166, e167, hF⟩ := rf_s hG; clear hG
          refine hp_getR (f := 3) d_M_carries_83 q151 (by decide) rfl (by decide) (k9 236 rfl rfl) rfl e167 ?_
          refine ab_aload_n d_M_carries_86 rfl rfl rfl ?_
          obtain ⟨a168, e169, hG⟩ := rf_s hF; clear hF
          refine hp_getR (f := 3) d_M_carries_87 q151 (by decide) rfl (by decide) (k9 236 rfl rfl) rfl e169 ?_
          obtain ⟨q170, hF⟩ := ck_s hG; clear hG
          obtain ⟨a171, e172, hG⟩ := rf_s hF; clear hF
          refine hp_getRN (f := 17) d_M_carries_90 q170 (by decide) rfl (by decide) (k8 183 rfl rfl) rfl e172 ?_
          refine ab_iload d_M_carries_93 rfl ?_
          obtain ⟨n173, q174, hF⟩ := ar_s hG; clear hG
          obtain ⟨q175, hG⟩ := ck_s hF; clear hF
          refine hp_iald d_M_carries_95 tI q174 q175 ?_
          refine ab_topi (fun x176 ex176 => ?_)
          replace hG := bnd_s ex176 hG
          refine ab_iconst (v := 2) d_M_carries_96 (by decide) ?_
          obtain ⟨q177, hF⟩ := ck_s hG; clear hG
          obtain ⟨v179, H180, z178, hG⟩ := bC_s hF; clear hF
          refine hp_callV_a (v := .int v179) (H1 := H180) (As := [.ref a166, .int x176, .int 2]) (rest := []) d_M_carries_97 (k_MText_thing z178) (ab_mkC s_MText_thing (Nat.le_of_ble_eq_true rfl) (Nat.le_of_ble_eq_true rfl) (Nat.le_refl 0) (Nat.le_refl 0)) (k11 174 rfl rfl) i_MText_thing v_MText_thing q177 (by decide) rfl rfl (Nat.le_of_ble_eq_true rfl) ?_
          have s_14 : Sa H H180 := (m_MText_thing z178)
          exact kB_M_carries_100 hm22 (mB_M_carries_39 hm22 n) hk22 ih hG
        · rw [if_pos q163] at hF
          refine ab_iconst (v := (-1)) d_M_carries_74 (by decide) ?_
          refine ab_goto (tgt := 100) d_M_carries_75 (by decide) ?_
          exact kB_M_carries_100 hm22 (mB_M_carries_39 hm22 n) hk22 ih hF
def B_M_carries_22 (N : Nat) (p0 : Nat) : Nat → Nat → Nat → Int32 → Hp → Option (Unit × Hp)
  | 0, _, _, _, _ => none
  | n + 1, l1, l2, l3, H =>
    if (256 : Int32) ≤ l3 then
    ck (H.sh[l2]? = some (13, 0)) <|
    bnd (H.sD l2 8 (0 : Int32)) fun H13 =>
    B_M_carries_270 N p0 N l1 l2 0 H13
    else
    ck (H.sh[l2]? = some (13, 0)) <|
    rf (H.P l2 6) fun a137 =>
    ar H 100 a137 fun n139 =>
    ck (inb l3 n139) <|
    bnd (H.sD a137 (l3).toNatClampNeg (0 : Int32)) fun H142 =>
    B_M_carries_39 N p0 (fun l1 l2 l3 H => B_M_carries_22 N p0 n l1 l2 l3 H) N l1 l2 l3 0 H142
termination_by structural n => n
set_option maxRecDepth 20000 in
set_option maxHeartbeats 2000000 in
theorem mB_M_carries_22 {N : Nat} {p0 : Nat} : ∀ (n : Nat) (l1 : Nat) (l2 : Nat) (l3 : Int32) (H : Hp) (r : Unit × Hp), B_M_carries_22 N p0 n l1 l2 l3 H = some r → Sa H r.2 := by
  intro n
  induction n with
  | zero => intro l1 l2 l3 H r hF; rw [B_M_carries_22] at hF; cases hF
  | succ n ih =>
    intro l1 l2 l3 H r hF
    rw [B_M_carries_22] at hF
    have hm := Sa.rf H
    rcases ite_s hF with ⟨q_32, hG⟩ | ⟨q_32, hG⟩
    · clear hF
      obtain ⟨q412, hF⟩ := ck_s hG; clear hG
      obtain ⟨H413, eH413, hG⟩ := bnd_g hF; clear hF
      replace hm : Sa H H413 := by rw [eH413]; exact hm
      exact hm.tr (mB_M_carries_270 N l1 l2 0 H413 r hG)
    · clear hF
      obtain ⟨q414, hF⟩ := ck_s hG; clear hG
      obtain ⟨a415, e416, hG⟩ := rf_s hF; clear hF
      obtain ⟨n417, q418, hF⟩ := ar_s hG; clear hG
      obtain ⟨q419, hG⟩ := ck_s hF; clear hF
      obtain ⟨H420, eH420, hF⟩ := bnd_g hG; clear hG
      replace hm : Sa H H420 := by rw [eH420]; exact hm
      exact hm.tr (mB_M_carries_39 ih N l1 l2 l3 0 H420 r hF)
set_option maxRecDepth 20000 in
set_option maxHeartbeats 2000000 in
theorem kB_M_carries_22 {N : Nat} {p0 : Nat} : ∀ (n : Nat) (l1 : Nat) (l2 : Nat) (l3 : Int32) (H : Hp) (r : Unit × Hp), B_M_carries_22 N p0 n l1 l2 l3 H = some r → ab_V y_M_carries { frames := 2, cells := 0, slots := 0, locals := 49 } (po (.returned none) r.2) 0 0 0 0 22 [some (.ref p0), some (.ref l1), some (.ref l2), some (.int l3), none, none, none, none] [] (hpw H) := by
  intro n
  induction n with
  | zero => intro l1 l2 l3 H r hF; rw [B_M_carries_22] at hF; cases hF
  | succ n ih =>
    intro l1 l2 l3 H r hF
    rw [B_M_carries_22] at hF
    refine ab_iload_n d_M_carries_22 rfl rfl ?_
    refine ab_sipush (v := 256) d_M_carries_23 (by decide) ?_
    refine ab_icmp_ge (tgt := 263) d_M_carries_26 (by decide) (fun q11 => ?_) (fun q11 => ?_)
    · rw [if_pos q11] at hF
      refine ab_aload_n d_M_carries_263 rfl rfl rfl ?_
      refine ab_iconst (v := 0) d_M_carries_264 (by decide) ?_
      obtain ⟨q12, hG⟩ := ck_s hF; clear hF
      refine hp_putIN (v := 0) (f := 8) d_M_carries_265 q12 (by decide) rfl (by decide) (k9 112 rfl rfl) rfl rfl (fun _ => rfl) (fun _ => rfl) rfl ?_
      refine hp_gen (fun H13 eH13 => ?_)
      replace hG := bnd_s eH13 hG
      have s_3 : Sa H H13 := by rw [eH13]; exact Sa.rf _
      refine ab_iconst (v := 0) d_M_carries_268 (by decide) ?_
      refine ab_istore_n (lv' := [some (.ref p0), some (.ref l1), some (.ref l2), some (.int 0), none, none, none, none]) d_M_carries_269 rfl (by decide) rfl ?_
      exact kB_M_carries_270 N l1 l2 0 H13 r hG
    · rw [if_neg q11] at hF
      refine ab_aload_n d_M_carries_29 rfl rfl rfl ?_
      obtain ⟨q136, hG⟩ := ck_s hF; clear hF
      obtain ⟨a137, e138, hF⟩ := rf_s hG; clear hG
      refine hp_getRN (f := 6) d_M_carries_30 q136 (by decide) rfl (by decide) (k9 106 rfl rfl) rfl e138 ?_
      refine ab_iload_n d_M_carries_33 rfl rfl ?_
      refine ab_iconst (v := 0) d_M_carries_34 (by decide) ?_
      obtain ⟨n139, q140, hG⟩ := ar_s hF; clear hF
      obtain ⟨q141, hF⟩ := ck_s hG; clear hG
      refine hp_iast d_M_carries_35 tI q140 q141 ?_
      refine hp_gen (fun H142 eH142 => ?_)
      replace hF := bnd_s eH142 hF
      have s_13 : Sa H H142 := by rw [eH142]; exact Sa.rf _
      refine ab_iconst (v := 0) d_M_carries_36 (by decide) ?_
      refine ab_istore (lv' := [some (.ref p0), some (.ref l1), some (.ref l2), some (.int l3), some (.int 0), none, none, none]) d_M_carries_37 (by decide) rfl ?_
      exact kB_M_carries_39 (mB_M_carries_22 n) ih N l1 l2 l3 0 H142 r hF
def F_M_carries (N : Nat) (p0 : Nat) (H : Hp) : Option (Unit × Hp) :=
    ck (H.sh[p0]? = some (12, 0)) <|
    rf (H.P p0 9) fun a2 =>
    rf (H.P p0 10) fun a4 =>
    ck (H.sh[a4]? = some (13, 0)) <|
    bC (F_MWorld_copies N a4 a2 H) fun v8 H9 =>
    bnd (H9.sD a4 13 ((-1) : Int32)) fun H10 =>
    B_M_carries_22 N p0 N a2 a4 0 H10
set_option maxRecDepth 20000 in
set_option maxHeartbeats 2000000 in
theorem m_M_carries {N : Nat} {p0 : Nat} {H : Hp} {r : Unit × Hp} (hF : F_M_carries N p0 H = some r) : Sa H r.2 := by
  unfold F_M_carries at hF
  have hm := Sa.rf H
  obtain ⟨q421, hG⟩ := ck_s hF; clear hF
  obtain ⟨a422, e423, hF⟩ := rf_s hG; clear hG
  obtain ⟨a424, e425, hG⟩ := rf_s hF; clear hF
  obtain ⟨q426, hF⟩ := ck_s hG; clear hG
  obtain ⟨v428, H429, z427, hG⟩ := bC_s hF; clear hF
  replace hm : Sa H H429 := hm.tr (m_MWorld_copies z427)
  obtain ⟨H430, eH430, hF⟩ := bnd_g hG; clear hG
  replace hm : Sa H H430 := by rw [eH430]; exact hm
  exact hm.tr (mB_M_carries_22 N a422 a424 0 H430 r hF)
set_option maxRecDepth 20000 in
set_option maxHeartbeats 2000000 in
theorem k_M_carries {N : Nat} {p0 : Nat} {H : Hp} {r : Unit × Hp} (hF : F_M_carries N p0 H = some r) : ab_M y_M_carries { frames := 2, cells := 0, slots := 0, locals := 49 } [.ref p0] (hpw H) (po (.returned none) r.2) := by
  unfold F_M_carries at hF
  refine ab_of2 (lv := [some (.ref p0), none, none, none, none, none, none, none]) 7 rfl rfl (Nat.le_of_ble_eq_true rfl) ?_
  refine ab_aload_n d_M_carries_0 rfl rfl rfl ?_
  obtain ⟨q1, hG⟩ := ck_s hF; clear hF
  obtain ⟨a2, e3, hF⟩ := rf_s hG; clear hG
  refine hp_getR (f := 9) d_M_carries_1 q1 (by decide) rfl (by decide) (k10 2 rfl rfl) rfl e3 ?_
  refine ab_astore_n (lv' := [some (.ref p0), some (.ref a2), none, none, none, none, none, none]) d_M_carries_4 rfl (by decide) rfl rfl ?_
  refine ab_aload_n d_M_carries_5 rfl rfl rfl ?_
  obtain ⟨a4, e5, hG⟩ := rf_s hF; clear hF
  refine hp_getR (f := 10) d_M_carries_6 q1 (by decide) rfl (by decide) (k10 3 rfl rfl) rfl e5 ?_
  refine ab_astore_n (lv' := [some (.ref p0), some (.ref a2), some (.ref a4), none, none, none, none, none]) d_M_carries_9 rfl (by decide) rfl rfl ?_
  refine ab_aload_n d_M_carries_10 rfl rfl rfl ?_
  refine ab_aload_n d_M_carries_11 rfl rfl rfl ?_
  obtain ⟨q6, hF⟩ := ck_s hG; clear hG
  obtain ⟨v8, H9, z7, hG⟩ := bC_s hF; clear hF
  refine hp_callV_v (H1 := H9) (As := [.ref a2]) (rest := []) d_M_carries_12 (k_MWorld_copies z7) (ab_mkC s_MWorld_copies (Nat.le_of_ble_eq_true rfl) (Nat.le_of_ble_eq_true rfl) (Nat.le_refl 0) (Nat.le_refl 0)) (k11 146 rfl rfl) i_MWorld_copies v_MWorld_copies q6 (by decide) rfl rfl (Nat.le_of_ble_eq_true rfl) ?_
  have s_1 : Sa H H9 := (m_MWorld_copies z7)
  refine ab_aload_n d_M_carries_15 rfl rfl rfl ?_
  refine ab_iconst (v := (-1)) d_M_carries_16 (by decide) ?_
  refine hp_putIN (v := (-1)) (f := 13) d_M_carries_17 (by rw [(s_1).1]; exact q6) (by decide) rfl (by decide) (k9 128 rfl rfl) rfl rfl (fun _ => rfl) (fun _ => rfl) rfl ?_
  refine hp_gen (fun H10 eH10 => ?_)
  replace hG := bnd_s eH10 hG
  have s_2 : Sa H H10 := by rw [eH10]; exact s_1
  refine ab_iconst (v := 0) d_M_carries_20 (by decide) ?_
  refine ab_istore_n (lv' := [some (.ref p0), some (.ref a2), some (.ref a4), some (.int 0), none, none, none, none]) d_M_carries_21 rfl (by decide) rfl ?_
  exact kB_M_carries_22 N a2 a4 0 H10 r hG
def y_M_swap : ab_Y := (⟨"WorldEngineModel", "swap", "()I"⟩, prog_14_method_13_code, 2, (some FieldType.int), [])
theorem d_M_swap_0 : decode y_M_swap.2.1 0 = .ok (.aload_n 0, 1) := by decide +kernel
theorem d_M_swap_1 : decode y_M_swap.2.1 1 = .ok (.iconst 0, 1) := by decide +kernel
theorem d_M_swap_2 : decode y_M_swap.2.1 2 = .ok (.putfield 83, 3) := by decide +kernel
theorem d_M_swap_5 : decode y_M_swap.2.1 5 = .ok (.aload_n 0, 1) := by decide +kernel
theorem d_M_swap_6 : decode y_M_swap.2.1 6 = .ok (.invokevirtual 148, 3) := by decide +kernel
theorem d_M_swap_9 : decode y_M_swap.2.1 9 = .ok (.ifCond .ne 6, 3) := by decide +kernel
theorem d_M_swap_12 : decode y_M_swap.2.1 12 = .ok (.bipush (-10), 2) := by decide +kernel
theorem d_M_swap_14 : decode y_M_swap.2.1 14 = .ok (.ireturn, 1) := by decide +kernel
theorem d_M_swap_15 : decode y_M_swap.2.1 15 = .ok (.aload_n 0, 1) := by decide +kernel
theorem d_M_swap_16 : decode y_M_swap.2.1 16 = .ok (.invokevirtual 117, 3) := by decide +kernel
theorem d_M_swap_19 : decode y_M_swap.2.1 19 = .ok (.ifCond .ne 9, 3) := by decide +kernel
theorem d_M_swap_22 : decode y_M_swap.2.1 22 = .ok (.aload_n 0, 1) := by decide +kernel
theorem d_M_swap_23 : decode y_M_swap.2.1 23 = .ok (.getfield 23, 3) := by decide +kernel
theorem d_M_swap_26 : decode y_M_swap.2.1 26 = .ok (.ineg, 1) := by decide +kernel
theorem d_M_swap_27 : decode y_M_swap.2.1 27 = .ok (.ireturn, 1) := by decide +kernel
theorem d_M_swap_28 : decode y_M_swap.2.1 28 = .ok (.aload_n 0, 1) := by decide +kernel
theorem d_M_swap_29 : decode y_M_swap.2.1 29 = .ok (.invokevirtual 151, 3) := by decide +kernel
theorem d_M_swap_32 : decode y_M_swap.2.1 32 = .ok (.aload_n 0, 1) := by decide +kernel
theorem d_M_swap_33 : decode y_M_swap.2.1 33 = .ok (.invokevirtual 120, 3) := by decide +kernel
theorem d_M_swap_36 : decode y_M_swap.2.1 36 = .ok (.aload_n 0, 1) := by decide +kernel
theorem d_M_swap_37 : decode y_M_swap.2.1 37 = .ok (.getfield 37, 3) := by decide +kernel
theorem d_M_swap_40 : decode y_M_swap.2.1 40 = .ok (.astore_n 1, 1) := by decide +kernel
theorem d_M_swap_41 : decode y_M_swap.2.1 41 = .ok (.aload_n 0, 1) := by decide +kernel
theorem d_M_swap_42 : decode y_M_swap.2.1 42 = .ok (.aload_n 0, 1) := by decide +kernel
theorem d_M_swap_43 : decode y_M_swap.2.1 43 = .ok (.getfield 40, 3) := by decide +kernel
theorem d_M_swap_46 : decode y_M_swap.2.1 46 = .ok (.putfield 37, 3) := by decide +kernel
theorem d_M_swap_49 : decode y_M_swap.2.1 49 = .ok (.aload_n 0, 1) := by decide +kernel
theorem d_M_swap_50 : decode y_M_swap.2.1 50 = .ok (.aload_n 1, 1) := by decide +kernel
theorem d_M_swap_51 : decode y_M_swap.2.1 51 = .ok (.putfield 40, 3) := by decide +kernel
theorem d_M_swap_54 : decode y_M_swap.2.1 54 = .ok (.aload_n 0, 1) := by decide +kernel
theorem d_M_swap_55 : decode y_M_swap.2.1 55 = .ok (.getfield 33, 3) := by decide +kernel
theorem d_M_swap_58 : decode y_M_swap.2.1 58 = .ok (.aload_n 0, 1) := by decide +kernel
theorem d_M_swap_59 : decode y_M_swap.2.1 59 = .ok (.getfield 37, 3) := by decide +kernel
theorem d_M_swap_62 : decode y_M_swap.2.1 62 = .ok (.invokevirtual 129, 3) := by decide +kernel
theorem d_M_swap_65 : decode y_M_swap.2.1 65 = .ok (.aload_n 0, 1) := by decide +kernel
theorem d_M_swap_66 : decode y_M_swap.2.1 66 = .ok (.getfield 16, 3) := by decide +kernel
theorem d_M_swap_69 : decode y_M_swap.2.1 69 = .ok (.getfield 142, 3) := by decide +kernel
theorem d_M_swap_72 : decode y_M_swap.2.1 72 = .ok (.ireturn, 1) := by decide +kernel
theorem s_M_swap : ab_Stat y_M_swap 0 := ⟨(k11 165 rfl rfl), (k1 19 rfl rfl), ⟨by decide, by decide⟩, by decide +kernel⟩
theorem i_M_swap : Cond.instanceMethod y_M_swap.1 ∈ ab_T := (k11 163 rfl rfl)
theorem v_M_swap : Cond.selects "WorldEngineModel" y_M_swap.1 y_M_swap.1 ∈ ab_T := (k11 164 rfl rfl)
def F_M_swap (N : Nat) (p0 : Nat) (H : Hp) : Option (Int32 × Hp) :=
    ck (H.sh[p0]? = some (12, 0)) <|
    bnd (H.sD p0 0 (0 : Int32)) fun H2 =>
    bC (F_M_isQuiet N p0 H2) fun v4 H5 =>
    if v4 = (0 : Int32) then
    some ((-10), H5)
    else
    bC (F_M_reads N p0 H5) fun v8 H9 =>
    if v8 = (0 : Int32) then
    bnd ((H9.D p0 6)) fun x35 =>
    some (-x35, H9)
    else
    bC (F_M_carries N p0 H9) fun v12 H13 =>
    bC (F_M_takes N p0 H13) fun v15 H16 =>
    rf (H16.P p0 9) fun a17 =>
    rf (H16.P p0 10) fun a19 =>
    bnd (H16.sP p0 9 (.ref a19)) fun H21 =>
    bnd (H21.sP p0 10 (.ref a17)) fun H22 =>
    rf (H22.P p0 8) fun a23 =>
    rf (H22.P p0 9) fun a25 =>
    ck (H22.sh[a23]? = some (13, 0)) <|
    bC (F_MWorld_copies N a23 a25 H22) fun v29 H30 =>
    rf (H30.P p0 3) fun a31 =>
    ck (H30.sh[a31]? = some (14, 0)) <|
    bnd ((H30.D a31 29)) fun x34 =>
    some (x34, H30)
set_option maxRecDepth 20000 in
set_option maxHeartbeats 2000000 in
theorem m_M_swap {N : Nat} {p0 : Nat} {H : Hp} {r : Int32 × Hp} (hF : F_M_swap N p0 H = some r) : Sa H r.2 := by
  unfold F_M_swap at hF
  have hm := Sa.rf H
  obtain ⟨q36, hG⟩ := ck_s hF; clear hF
  obtain ⟨H37, eH37, hF⟩ := bnd_g hG; clear hG
  replace hm : Sa H H37 := by rw [eH37]; exact hm
  obtain ⟨v39, H40, z38, hG⟩ := bC_s hF; clear hF
  replace hm : Sa H H40 := hm.tr (m_M_isQuiet z38)
  rcases ite_s hG with ⟨q_11, hF⟩ | ⟨q_11, hF⟩
  · clear hG
    have hr := Option.some.inj hF; subst hr
    exact hm
  · clear hG
    obtain ⟨v43, H44, z42, hG⟩ := bC_s hF; clear hF
    replace hm : Sa H H44 := hm.tr (m_M_reads z42)
    rcases ite_s hG with ⟨q_13, hF⟩ | ⟨q_13, hF⟩
    · clear hG
      obtain ⟨x46, -, hG⟩ := bnd_g hF; clear hF
      have hr := Option.some.inj hG; subst hr
      exact hm
    · clear hG
      obtain ⟨v48, H49, z47, hG⟩ := bC_s hF; clear hF
      replace hm : Sa H H49 := hm.tr (m_M_carries z47)
      obtain ⟨v51, H52, z50, hF⟩ := bC_s hG; clear hG
      replace hm : Sa H H52 := hm.tr (m_M_takes z50)
      obtain ⟨a53, e54, hG⟩ := rf_s hF; clear hF
      obtain ⟨a55, e56, hF⟩ := rf_s hG; clear hG
      obtain ⟨H57, eH57, hG⟩ := bnd_g hF; clear hF
      replace hm : Sa H H57 := by rw [eH57]; exact hm
      obtain ⟨H58, eH58, hF⟩ := bnd_g hG; clear hG
      replace hm : Sa H H58 := by rw [eH58]; exact hm
      obtain ⟨a59, e60, hG⟩ := rf_s hF; clear hF
      obtain ⟨a61, e62, hF⟩ := rf_s hG; clear hG
      obtain ⟨q63, hG⟩ := ck_s hF; clear hF
      obtain ⟨v65, H66, z64, hF⟩ := bC_s hG; clear hG
      replace hm : Sa H H66 := hm.tr (m_MWorld_copies z64)
      obtain ⟨a67, e68, hG⟩ := rf_s hF; clear hF
      obtain ⟨q69, hF⟩ := ck_s hG; clear hG
      obtain ⟨x70, -, hG⟩ := bnd_g hF; clear hF
      have hr := Option.some.inj hG; subst hr
      exact hm
set_option maxRecDepth 20000 in
set_option maxHeartbeats 2000000 in
theorem k_M_swap {N : Nat} {p0 : Nat} {H : Hp} {r : Int32 × Hp} (hF : F_M_swap N p0 H = some r) : ab_M y_M_swap { frames := 358, cells := 0, slots := 0, locals := 8098 } [.ref p0] (hpw H) (po (.returned (some (.int r.1))) r.2) := by
  unfold F_M_swap at hF
  refine ab_of2 (lv := [some (.ref p0), none]) 1 rfl rfl (Nat.le_of_ble_eq_true rfl) ?_
  refine ab_aload_n d_M_swap_0 rfl rfl rfl ?_
  refine ab_iconst (v := 0) d_M_swap_1 (by decide) ?_
  obtain ⟨q1, hG⟩ := ck_s hF; clear hF
  refine hp_putI (v := 0) (f := 0) d_M_swap_2 q1 (by decide) rfl (by decide) (k9 233 rfl rfl) rfl rfl (fun _ => rfl) (fun _ => rfl) rfl ?_
  refine hp_gen (fun H2 eH2 => ?_)
  replace hG := bnd_s eH2 hG
  have s_1 : Sa H H2 := by rw [eH2]; exact Sa.rf _
  refine ab_aload_n d_M_swap_5 rfl rfl rfl ?_
  obtain ⟨v4, H5, z3, hF⟩ := bC_s hG; clear hG
  refine hp_callV_a (v := .int v4) (H1 := H5) (As := []) (rest := []) d_M_swap_6 (k_M_isQuiet z3) (ab_mkC s_M_isQuiet (Nat.le_of_ble_eq_true rfl) (Nat.le_of_ble_eq_true rfl) (Nat.le_refl 0) (Nat.le_refl 0)) (k11 166 rfl rfl) i_M_isQuiet v_M_isQuiet (by rw [(s_1).1]; exact q1) (by decide) rfl rfl (Nat.le_of_ble_eq_true rfl) ?_
  have s_2 : Sa H H5 := (s_1).tr (m_M_isQuiet z3)
  refine ab_if_ne (tgt := 15) d_M_swap_9 (by decide) (fun q6 => ?_) (fun q6 => ?_)
  · rw [if_neg q6] at hF
    refine ab_aload_n d_M_swap_15 rfl rfl rfl ?_
    obtain ⟨v8, H9, z7, hG⟩ := bC_s hF; clear hF
    refine hp_callV_a (v := .int v8) (H1 := H9) (As := []) (rest := []) d_M_swap_16 (k_M_reads z7) (ab_mkC s_M_reads (Nat.le_of_ble_eq_true rfl) (Nat.le_of_ble_eq_true rfl) (Nat.le_refl 0) (Nat.le_refl 0)) (k10 100 rfl rfl) i_M_reads v_M_reads (by rw [(s_2).1]; exact q1) (by decide) rfl rfl (Nat.le_of_ble_eq_true rfl) ?_
    have s_3 : Sa H H9 := (s_2).tr (m_M_reads z7)
    refine ab_if_ne (tgt := 28) d_M_swap_19 (by decide) (fun q10 => ?_) (fun q10 => ?_)
    · rw [if_neg q10] at hG
      refine ab_aload_n d_M_swap_28 rfl rfl rfl ?_
      obtain ⟨v12, H13, z11, hF⟩ := bC_s hG; clear hG
      refine hp_callV_v (H1 := H13) (As := []) (rest := []) d_M_swap_29 (k_M_carries z11) (ab_mkC s_M_carries (Nat.le_of_ble_eq_true rfl) (Nat.le_of_ble_eq_true rfl) (Nat.le_refl 0) (Nat.le_refl 0)) (k11 170 rfl rfl) i_M_carries v_M_carries (by rw [(s_3).1]; exact q1) (by decide) rfl rfl (Nat.le_of_ble_eq_true rfl) ?_
      have s_4 : Sa H H13 := (s_3).tr (m_M_carries z11)
      refine ab_aload_n d_M_swap_32 rfl rfl rfl ?_
      obtain ⟨v15, H16, z14, hG⟩ := bC_s hF; clear hF
      refine hp_callV_v (H1 := H16) (As := []) (rest := []) d_M_swap_33 (k_M_takes z14) (ab_mkC s_M_takes (Nat.le_of_ble_eq_true rfl) (Nat.le_of_ble_eq_true rfl) (Nat.le_refl 0) (Nat.le_refl 0)) (k11 141 rfl rfl) i_M_takes v_M_takes (by rw [(s_4).1]; exact q1) (by decide) rfl rfl (Nat.le_of_ble_eq_true rfl) ?_
      have s_5 : Sa H H16 := (s_4).tr (m_M_takes z14)
      refine ab_aload_n d_M_swap_36 rfl rfl rfl ?_
      obtain ⟨a17, e18, hF⟩ := rf_s hG; clear hG
      refine hp_getR (f := 9) d_M_swap_37 (by rw [(s_5).1]; exact q1) (by decide) rfl (by decide) (k10 2 rfl rfl) rfl e18 ?_
      refine ab_astore_n (lv' := [some (.ref p0), some (.ref a17)]) d_M_swap_40 rfl (by decide) rfl rfl ?_
      refine ab_aload_n d_M_swap_41 rfl rfl rfl ?_
      refine ab_aload_n d_M_swap_42 rfl rfl rfl ?_
      obtain ⟨a19, e20, hG⟩ := rf_s hF; clear hF
      refine hp_getR (f := 10) d_M_swap_43 (by rw [(s_5).1]; exact q1) (by decide) rfl (by decide) (k10 3 rfl rfl) rfl e20 ?_
      refine hp_putP (v := .ref a19) (f := 9) d_M_swap_46 (by rw [(s_5).1]; exact q1) (by decide) rfl (by decide) (k10 2 rfl rfl) rfl rfl (fun _ => rfl) (fun _ => rfl) rfl ?_
      refine hp_gen (fun H21 eH21 => ?_)
      replace hG := bnd_s eH21 hG
      have s_6 : Sa H H21 := by rw [eH21]; exact s_5
      refine ab_aload_n d_M_swap_49 rfl rfl rfl ?_
      refine ab_aload_n d_M_swap_50 rfl rfl rfl ?_
      refine hp_putP (v := .ref a17) (f := 10) d_M_swap_51 (by rw [(s_6).1]; exact q1) (by decide) rfl (by decide) (k10 3 rfl rfl) rfl rfl (fun _ => rfl) (fun _ => rfl) rfl ?_
      refine hp_gen (fun H22 eH22 => ?_)
      replace hG := bnd_s eH22 hG
      have s_7 : Sa H H22 := by rw [eH22]; exact s_6
      refine ab_aload_n d_M_swap_54 rfl rfl rfl ?_
      obtain ⟨a23, e24, hF⟩ := rf_s hG; clear hG
      refine hp_getR (f := 8) d_M_swap_55 (by rw [(s_7).1]; exact q1) (by decide) rfl (by decide) (k10 1 rfl rfl) rfl e24 ?_
      refine ab_aload_n d_M_swap_58 rfl rfl rfl ?_
      obtain ⟨a25, e26, hG⟩ := rf_s hF; clear hF
      refine hp_getR (f := 9) d_M_swap_59 (by rw [(s_7).1]; exact q1) (by decide) rfl (by decide) (k10 2 rfl rfl) rfl e26 ?_
      obtain ⟨q27, hF⟩ := ck_s hG; clear hG
      rw [(s_7).1] at q27
      obtain ⟨v29, H30, z28, hG⟩ := bC_s hF; clear hF
      refine hp_callV_v (H1 := H30) (As := [.ref a25]) (rest := []) d_M_swap_62 (k_MWorld_copies z28) (ab_mkC s_MWorld_copies (Nat.le_of_ble_eq_true rfl) (Nat.le_of_ble_eq_true rfl) (Nat.le_refl 0) (Nat.le_refl 0)) (k11 146 rfl rfl) i_MWorld_copies v_MWorld_copies (by rw [(s_7).1]; exact q27) (by decide) rfl rfl (Nat.le_of_ble_eq_true rfl) ?_
      have s_8 : Sa H H30 := (s_7).tr (m_MWorld_copies z28)
      refine ab_aload_n d_M_swap_65 rfl rfl rfl ?_
      obtain ⟨a31, e32, hF⟩ := rf_s hG; clear hG
      refine hp_getR (f := 3) d_M_swap_66 (by rw [(s_8).1]; exact q1) (by decide) rfl (by decide) (k9 236 rfl rfl) rfl e32 ?_
      obtain ⟨q33, hG⟩ := ck_s hF; clear hF
      rw [(s_8).1] at q33
      refine hp_getIN (f := 29) d_M_swap_69 (by rw [(s_8).1]; exact q33) (by decide) rfl (by decide) (k8 212 rfl rfl) rfl ?_
      refine ab_topi (fun x34 ex34 => ?_)
      replace hG := bnd_s ex34 hG
      exact ab_iret d_M_swap_72 rfl (Nat.le_refl _) (Nat.le_refl _) (by have hr := Option.some.inj hG; subst hr; exact ⟨rfl, rfl⟩)
    · rw [if_pos q10] at hG
      refine ab_aload_n d_M_swap_22 rfl rfl rfl ?_
      refine hp_getI (f := 6) d_M_swap_23 (by rw [(s_3).1]; exact q1) (by decide) rfl (by decide) (k9 239 rfl rfl) rfl ?_
      refine ab_topi (fun x35 ex35 => ?_)
      replace hG := bnd_s ex35 hG
      refine ab_ineg d_M_swap_26 ?_
      exact ab_iret d_M_swap_27 rfl (Nat.le_refl _) (Nat.le_refl _) (by have hr := Option.some.inj hG; subst hr; exact ⟨rfl, rfl⟩)
  · rw [if_pos q6] at hF
    refine ab_bipush (v := (-10)) d_M_swap_12 (by decide) ?_
    exact ab_iret d_M_swap_14 rfl (Nat.le_refl _) (Nat.le_refl _) (by have hr := Option.some.inj hF; subst hr; exact ⟨rfl, rfl⟩)
def y_M_workers : ab_Y := (⟨"WorldEngineModel", "workers", "(Z)I"⟩, prog_14_method_21_code, 4, (some FieldType.int), [])
theorem d_M_workers_0 : decode y_M_workers.2.1 0 = .ok (.iconst 0, 1) := by decide +kernel
theorem d_M_workers_1 : decode y_M_workers.2.1 1 = .ok (.istore_n 2, 1) := by decide +kernel
theorem d_M_workers_2 : decode y_M_workers.2.1 2 = .ok (.iconst 0, 1) := by decide +kernel
theorem d_M_workers_3 : decode y_M_workers.2.1 3 = .ok (.istore_n 3, 1) := by decide +kernel
theorem d_M_workers_4 : decode y_M_workers.2.1 4 = .ok (.iload_n 3, 1) := by decide +kernel
theorem d_M_workers_5 : decode y_M_workers.2.1 5 = .ok (.bipush 8, 2) := by decide +kernel
theorem d_M_workers_7 : decode y_M_workers.2.1 7 = .ok (.if_icmp .ge 39, 3) := by decide +kernel
theorem d_M_workers_10 : decode y_M_workers.2.1 10 = .ok (.iload_n 2, 1) := by decide +kernel
theorem d_M_workers_11 : decode y_M_workers.2.1 11 = .ok (.aload_n 0, 1) := by decide +kernel
theorem d_M_workers_12 : decode y_M_workers.2.1 12 = .ok (.getfield 77, 3) := by decide +kernel
theorem d_M_workers_15 : decode y_M_workers.2.1 15 = .ok (.iload_n 3, 1) := by decide +kernel
theorem d_M_workers_16 : decode y_M_workers.2.1 16 = .ok (.baload, 1) := by decide +kernel
theorem d_M_workers_17 : decode y_M_workers.2.1 17 = .ok (.ifCond .eq 20, 3) := by decide +kernel
theorem d_M_workers_20 : decode y_M_workers.2.1 20 = .ok (.iload_n 1, 1) := by decide +kernel
theorem d_M_workers_21 : decode y_M_workers.2.1 21 = .ok (.ifCond .ne 12, 3) := by decide +kernel
theorem d_M_workers_24 : decode y_M_workers.2.1 24 = .ok (.aload_n 0, 1) := by decide +kernel
theorem d_M_workers_25 : decode y_M_workers.2.1 25 = .ok (.getfield 80, 3) := by decide +kernel
theorem d_M_workers_28 : decode y_M_workers.2.1 28 = .ok (.iload_n 3, 1) := by decide +kernel
theorem d_M_workers_29 : decode y_M_workers.2.1 29 = .ok (.baload, 1) := by decide +kernel
theorem d_M_workers_30 : decode y_M_workers.2.1 30 = .ok (.ifCond .ne 7, 3) := by decide +kernel
theorem d_M_workers_33 : decode y_M_workers.2.1 33 = .ok (.iconst 1, 1) := by decide +kernel
theorem d_M_workers_34 : decode y_M_workers.2.1 34 = .ok (.goto 4, 3) := by decide +kernel
theorem d_M_workers_37 : decode y_M_workers.2.1 37 = .ok (.iconst 0, 1) := by decide +kernel
theorem d_M_workers_38 : decode y_M_workers.2.1 38 = .ok (.iadd, 1) := by decide +kernel
theorem d_M_workers_39 : decode y_M_workers.2.1 39 = .ok (.istore_n 2, 1) := by decide +kernel
theorem d_M_workers_40 : decode y_M_workers.2.1 40 = .ok (.iinc 3 1, 3) := by decide +kernel
theorem d_M_workers_43 : decode y_M_workers.2.1 43 = .ok (.goto (-39), 3) := by decide +kernel
theorem d_M_workers_46 : decode y_M_workers.2.1 46 = .ok (.iload_n 2, 1) := by decide +kernel
theorem d_M_workers_47 : decode y_M_workers.2.1 47 = .ok (.ireturn, 1) := by decide +kernel
theorem s_M_workers : ab_Stat y_M_workers 1 := ⟨(k11 200 rfl rfl), (k1 19 rfl rfl), ⟨by decide, by decide⟩, by decide +kernel⟩
theorem i_M_workers : Cond.instanceMethod y_M_workers.1 ∈ ab_T := (k11 199 rfl rfl)
theorem v_M_workers : Cond.selects "WorldEngineModel" y_M_workers.1 y_M_workers.1 ∈ ab_T := ab_s (List.mem_of_getElem? (i := 171) rfl) rfl
def B_M_workers_38 (N : Nat) (p0 : Nat) (p1 : Int32) (kq4 : Int32 → Int32 → Hp → Option (Int32 × Hp)) (l3 : Int32) (w0 : Int32) (w1 : Int32) (H : Hp) : Option (Int32 × Hp) :=
    kq4 (w0 + w1) (l3 + 1) H
set_option maxRecDepth 20000 in
set_option maxHeartbeats 2000000 in
theorem mB_M_workers_38 {N : Nat} {p0 : Nat} {p1 : Int32} {kq4 : Int32 → Int32 → Hp → Option (Int32 × Hp)} (hm4 : ∀ (l2 : Int32) (l3 : Int32) (H : Hp) (r : Int32 × Hp), kq4 l2 l3 H = some r → Sa H r.2) {l3 : Int32} {w0 : Int32} {w1 : Int32} {H : Hp} {r : Int32 × Hp} (hF : B_M_workers_38 N p0 p1 kq4 l3 w0 w1 H = some r) : Sa H r.2 := by
  unfold B_M_workers_38 at hF
  have hm := Sa.rf H
  exact hm.tr (hm4 (w0 + w1) (l3 + 1) H r hF)
set_option maxRecDepth 20000 in
set_option maxHeartbeats 2000000 in
theorem kB_M_workers_38 {N : Nat} {p0 : Nat} {p1 : Int32} {kq4 : Int32 → Int32 → Hp → Option (Int32 × Hp)} (hm4 : ∀ (l2 : Int32) (l3 : Int32) (H : Hp) (r : Int32 × Hp), kq4 l2 l3 H = some r → Sa H r.2) (hk4 : ∀ (l2 : Int32) (l3 : Int32) (H : Hp) (r : Int32 × Hp), kq4 l2 l3 H = some r → ab_V y_M_workers { frames := 0, cells := 0, slots := 0, locals := 0 } (po (.returned (some (.int r.1))) r.2) 0 0 0 0 4 [some (.ref p0), some (.int p1), some (.int l2), some (.int l3)] [] (hpw H)) {l3 : Int32} {w0 : Int32} {w1 : Int32} {H : Hp} {r : Int32 × Hp} (hF : B_M_workers_38 N p0 p1 kq4 l3 w0 w1 H = some r) : ab_V y_M_workers { frames := 0, cells := 0, slots := 0, locals := 0 } (po (.returned (some (.int r.1))) r.2) 0 0 0 0 38 [some (.ref p0), some (.int p1), none, some (.int l3)] [.int w1, .int w0] (hpw H) := by
  unfold B_M_workers_38 at hF
  refine ab_iadd d_M_workers_38 ?_
  refine ab_istore_n (lv' := [some (.ref p0), some (.int p1), some (.int (w0 + w1)), some (.int l3)]) d_M_workers_39 rfl (by decide) rfl ?_
  refine ab_iinc (v := l3 + 1) (lv' := [some (.ref p0), some (.int p1), some (.int (w0 + w1)), some (.int (l3 + 1))]) d_M_workers_40 rfl rfl (by decide) rfl ?_
  refine ab_goto (tgt := 4) d_M_workers_43 (by decide) ?_
  exact hk4 (w0 + w1) (l3 + 1) H r hF
def B_M_workers_37 (N : Nat) (p0 : Nat) (p1 : Int32) (kq4 : Int32 → Int32 → Hp → Option (Int32 × Hp)) (l3 : Int32) (w0 : Int32) (H : Hp) : Option (Int32 × Hp) :=
    B_M_workers_38 N p0 p1 kq4 l3 w0 0 H
set_option maxRecDepth 20000 in
set_option maxHeartbeats 2000000 in
theorem mB_M_workers_37 {N : Nat} {p0 : Nat} {p1 : Int32} {kq4 : Int32 → Int32 → Hp → Option (Int32 × Hp)} (hm4 : ∀ (l2 : Int32) (l3 : Int32) (H : Hp) (r : Int32 × Hp), kq4 l2 l3 H = some r → Sa H r.2) {l3 : Int32} {w0 : Int32} {H : Hp} {r : Int32 × Hp} (hF : B_M_workers_37 N p0 p1 kq4 l3 w0 H = some r) : Sa H r.2 := by
  unfold B_M_workers_37 at hF
  have hm := Sa.rf H
  exact hm.tr (mB_M_workers_38 hm4 hF)
set_option maxRecDepth 20000 in
set_option maxHeartbeats 2000000 in
theorem kB_M_workers_37 {N : Nat} {p0 : Nat} {p1 : Int32} {kq4 : Int32 → Int32 → Hp → Option (Int32 × Hp)} (hm4 : ∀ (l2 : Int32) (l3 : Int32) (H : Hp) (r : Int32 × Hp), kq4 l2 l3 H = some r → Sa H r.2) (hk4 : ∀ (l2 : Int32) (l3 : Int32) (H : Hp) (r : Int32 × Hp), kq4 l2 l3 H = some r → ab_V y_M_workers { frames := 0, cells := 0, slots := 0, locals := 0 } (po (.returned (some (.int r.1))) r.2) 0 0 0 0 4 [some (.ref p0), some (.int p1), some (.int l2), some (.int l3)] [] (hpw H)) {l3 : Int32} {w0 : Int32} {H : Hp} {r : Int32 × Hp} (hF : B_M_workers_37 N p0 p1 kq4 l3 w0 H = some r) : ab_V y_M_workers { frames := 0, cells := 0, slots := 0, locals := 0 } (po (.returned (some (.int r.1))) r.2) 0 0 0 0 37 [some (.ref p0), some (.int p1), none, some (.int l3)] [.int w0] (hpw H) := by
  unfold B_M_workers_37 at hF
  refine ab_iconst (v := 0) d_M_workers_37 (by decide) ?_
  exact kB_M_workers_38 hm4 hk4 hF
def B_M_workers_33 (N : Nat) (p0 : Nat) (p1 : Int32) (kq4 : Int32 → Int32 → Hp → Option (Int32 × Hp)) (l3 : Int32) (w0 : Int32) (H : Hp) : Option (Int32 × Hp) :=
    B_M_workers_38 N p0 p1 kq4 l3 w0 1 H
set_option maxRecDepth 20000 in
set_option maxHeartbeats 2000000 in
theorem mB_M_workers_33 {N : Nat} {p0 : Nat} {p1 : Int32} {kq4 : Int32 → Int32 → Hp → Option (Int32 × Hp)} (hm4 : ∀ (l2 : Int32) (l3 : Int32) (H : Hp) (r : Int32 × Hp), kq4 l2 l3 H = some r → Sa H r.2) {l3 : Int32} {w0 : Int32} {H : Hp} {r : Int32 × Hp} (hF : B_M_workers_33 N p0 p1 kq4 l3 w0 H = some r) : Sa H r.2 := by
  unfold B_M_workers_33 at hF
  have hm := Sa.rf H
  exact hm.tr (mB_M_workers_38 hm4 hF)
set_option maxRecDepth 20000 in
set_option maxHeartbeats 2000000 in
theorem kB_M_workers_33 {N : Nat} {p0 : Nat} {p1 : Int32} {kq4 : Int32 → Int32 → Hp → Option (Int32 × Hp)} (hm4 : ∀ (l2 : Int32) (l3 : Int32) (H : Hp) (r : Int32 × Hp), kq4 l2 l3 H = some r → Sa H r.2) (hk4 : ∀ (l2 : Int32) (l3 : Int32) (H : Hp) (r : Int32 × Hp), kq4 l2 l3 H = some r → ab_V y_M_workers { frames := 0, cells := 0, slots := 0, locals := 0 } (po (.returned (some (.int r.1))) r.2) 0 0 0 0 4 [some (.ref p0), some (.int p1), some (.int l2), some (.int l3)] [] (hpw H)) {l3 : Int32} {w0 : Int32} {H : Hp} {r : Int32 × Hp} (hF : B_M_workers_33 N p0 p1 kq4 l3 w0 H = some r) : ab_V y_M_workers { frames := 0, cells := 0, slots := 0, locals := 0 } (po (.returned (some (.int r.1))) r.2) 0 0 0 0 33 [some (.ref p0), some (.int p1), none, some (.int l3)] [.int w0] (hpw H) := by
  unfold B_M_workers_33 at hF
  refine ab_iconst (v := 1) d_M_workers_33 (by decide) ?_
  refine ab_goto (tgt := 38) d_M_workers_34 (by decide) ?_
  exact kB_M_workers_38 hm4 hk4 hF
def B_M_workers_4 (N : Nat) (p0 : Nat) (p1 : Int32) : Nat → Int32 → Int32 → Hp → Option (Int32 × Hp)
  | 0, _, _, _ => none
  | n + 1, l2, l3, H =>
    if (8 : Int32) ≤ l3 then
    some (l2, H)
    else
    ck (H.sh[p0]? = some (12, 0)) <|
    rf (H.P p0 25) fun a3 =>
    ar H 102 a3 fun n5 =>
    ck (inb l3 n5) <|
    bnd ((H.D a3 (l3).toNatClampNeg)) fun x8 =>
    if x8 = (0 : Int32) then
    B_M_workers_37 N p0 p1 (fun l2 l3 H => B_M_workers_4 N p0 p1 n l2 l3 H) l3 l2 H
    else
    if p1 = (0 : Int32) then
    rf (H.P p0 26) fun a11 =>
    ar H 102 a11 fun n13 =>
    ck (inb l3 n13) <|
    bnd ((H.D a11 (l3).toNatClampNeg)) fun x16 =>
    if x16 = (0 : Int32) then
    B_M_workers_33 N p0 p1 (fun l2 l3 H => B_M_workers_4 N p0 p1 n l2 l3 H) l3 l2 H
    else
    B_M_workers_37 N p0 p1 (fun l2 l3 H => B_M_workers_4 N p0 p1 n l2 l3 H) l3 l2 H
    else
    B_M_workers_33 N p0 p1 (fun l2 l3 H => B_M_workers_4 N p0 p1 n l2 l3 H) l3 l2 H
termination_by structural n => n
set_option maxRecDepth 20000 in
set_option maxHeartbeats 2000000 in
theorem mB_M_workers_4 {N : Nat} {p0 : Nat} {p1 : Int32} : ∀ (n : Nat) (l2 : Int32) (l3 : Int32) (H : Hp) (r : Int32 × Hp), B_M_workers_4 N p0 p1 n l2 l3 H = some r → Sa H r.2 := by
  intro n
  induction n with
  | zero => intro l2 l3 H r hF; rw [B_M_workers_4] at hF; cases hF
  | succ n ih =>
    intro l2 l3 H r hF
    rw [B_M_workers_4] at hF
    have hm := Sa.rf H
    rcases ite_s hF with ⟨q_1, hG⟩ | ⟨q_1, hG⟩
    · clear hF
      have hr := Option.some.inj hG; subst hr
      exact hm
    · clear hF
      obtain ⟨q19, hF⟩ := ck_s hG; clear hG
      obtain ⟨a20, e21, hG⟩ := rf_s hF; clear hF
      obtain ⟨n22, q23, hF⟩ := ar_s hG; clear hG
      obtain ⟨q24, hG⟩ := ck_s hF; clear hF
      obtain ⟨x25, -, hF⟩ := bnd_g hG; clear hG
      rcases ite_s hF with ⟨q_2, hG⟩ | ⟨q_2, hG⟩
      · clear hF
        exact hm.tr (mB_M_workers_37 ih hG)
      · clear hF
        rcases ite_s hG with ⟨q_3, hF⟩ | ⟨q_3, hF⟩
        · clear hG
          obtain ⟨a28, e29, hG⟩ := rf_s hF; clear hF
          obtain ⟨n30, q31, hF⟩ := ar_s hG; clear hG
          obtain ⟨q32, hG⟩ := ck_s hF; clear hF
          obtain ⟨x33, -, hF⟩ := bnd_g hG; clear hG
          rcases ite_s hF with ⟨q_4, hG⟩ | ⟨q_4, hG⟩
          · clear hF
            exact hm.tr (mB_M_workers_33 ih hG)
          · clear hF
            exact hm.tr (mB_M_workers_37 ih hG)
        · clear hG
          exact hm.tr (mB_M_workers_33 ih hF)
set_option maxRecDepth 20000 in
set_option maxHeartbeats 2000000 in
theorem kB_M_workers_4 {N : Nat} {p0 : Nat} {p1 : Int32} : ∀ (n : Nat) (l2 : Int32) (l3 : Int32) (H : Hp) (r : Int32 × Hp), B_M_workers_4 N p0 p1 n l2 l3 H = some r → ab_V y_M_workers { frames := 0, cells := 0, slots := 0, locals := 0 } (po (.returned (some (.int r.1))) r.2) 0 0 0 0 4 [some (.ref p0), some (.int p1), some (.int l2), some (.int l3)] [] (hpw H) := by
  intro n
  induction n with
  | zero => intro l2 l3 H r hF; rw [B_M_workers_4] at hF; cases hF
  | succ n ih =>
    intro l2 l3 H r hF
    rw [B_M_workers_4] at hF
    refine ab_iload_n d_M_workers_4 rfl rfl ?_
    refine ab_bipush (v := 8) d_M_workers_5 (by decide) ?_
    refine ab_icmp_ge (tgt := 46) d_M_workers_7 (by decide) (fun q1 => ?_) (fun q1 => ?_)
    · rw [if_pos q1] at hF
      refine ab_iload_n d_M_workers_46 rfl rfl ?_
      exact ab_iret d_M_workers_47 rfl (Nat.le_refl _) (Nat.le_refl _) (by have hr := Option.some.inj hF; subst hr; exact ⟨rfl, rfl⟩)
    · rw [if_neg q1] at hF
      refine ab_iload_n d_M_workers_10 rfl rfl ?_
      refine ab_aload_n d_M_workers_11 rfl rfl rfl ?_
      obtain ⟨q2, hG⟩ := ck_s hF; clear hF
      obtain ⟨a3, e4, hF⟩ := rf_s hG; clear hG
      refine hp_getR (f := 25) d_M_workers_12 q2 (by decide) rfl (by decide) (k10 18 rfl rfl) rfl e4 ?_
      refine ab_iload_n d_M_workers_15 rfl rfl ?_
      obtain ⟨n5, q6, hG⟩ := ar_s hF; clear hF
      obtain ⟨q7, hF⟩ := ck_s hG; clear hG
      refine hp_zald d_M_workers_16 tZ q6 q7 ?_
      refine ab_topi (fun x8 ex8 => ?_)
      replace hF := bnd_s ex8 hF
      refine ab_if_eq (tgt := 37) d_M_workers_17 (by decide) (fun q9 => ?_) (fun q9 => ?_)
      · rw [if_pos q9] at hF
        refine ab_le (lv' := [some (.ref p0), some (.int p1), none, some (.int l3)]) ⟨rfl, ⟨rfl, ⟨rfl, trivial⟩⟩⟩ ?_
        exact kB_M_workers_37 (mB_M_workers_4 n) ih hF
      · rw [if_neg q9] at hF
        refine ab_iload_n d_M_workers_20 rfl rfl ?_
        refine ab_if_ne (tgt := 33) d_M_workers_21 (by decide) (fun q10 => ?_) (fun q10 => ?_)
        · rw [if_neg q10] at hF
          refine ab_le (lv' := [some (.ref p0), some (.int p1), none, some (.int l3)]) ⟨rfl, ⟨rfl, ⟨rfl, trivial⟩⟩⟩ ?_
          exact kB_M_workers_33 (mB_M_workers_4 n) ih hF
        · rw [if_pos q10] at hF
          refine ab_aload_n d_M_workers_24 rfl rfl rfl ?_
          obtain ⟨a11, e12, hG⟩ := rf_s hF; clear hF
          refine hp_getR (f := 26) d_M_workers_25 q2 (by decide) rfl (by decide) (k10 19 rfl rfl) rfl e12 ?_
          refine ab_iload_n d_M_workers_28 rfl rfl ?_
          obtain ⟨n13, q14, hF⟩ := ar_s hG; clear hG
          obtain ⟨q15, hG⟩ := ck_s hF; clear hF
          refine hp_zald d_M_workers_29 tZ q14 q15 ?_
          refine ab_topi (fun x16 ex16 => ?_)
          replace hG := bnd_s ex16 hG
          refine ab_if_ne (tgt := 37) d_M_workers_30 (by decide) (fun q17 => ?_) (fun q17 => ?_)
          · rw [if_neg q17] at hG
            refine ab_le (lv' := [some (.ref p0), some (.int p1), none, some (.int l3)]) ⟨rfl, ⟨rfl, ⟨rfl, trivial⟩⟩⟩ ?_
            exact kB_M_workers_37 (mB_M_workers_4 n) ih hG
          · rw [if_pos q17] at hG
            refine ab_le (lv' := [some (.ref p0), some (.int p1), none, some (.int l3)]) ⟨rfl, ⟨rfl, ⟨rfl, trivial⟩⟩⟩ ?_
            exact kB_M_workers_33 (mB_M_workers_4 n) ih hG
def F_M_workers (N : Nat) (p0 : Nat) (p1 : Int32) (H : Hp) : Option (Int32 × Hp) :=
    B_M_workers_4 N p0 p1 N 0 0 H
set_option maxRecDepth 20000 in
set_option maxHeartbeats 2000000 in
theorem m_M_workers {N : Nat} {p0 : Nat} {p1 : Int32} {H : Hp} {r : Int32 × Hp} (hF : F_M_workers N p0 p1 H = some r) : Sa H r.2 := by
  unfold F_M_workers at hF
  have hm := Sa.rf H
  exact hm.tr (mB_M_workers_4 N 0 0 H r hF)
set_option maxRecDepth 20000 in
set_option maxHeartbeats 2000000 in
theorem k_M_workers {N : Nat} {p0 : Nat} {p1 : Int32} {H : Hp} {r : Int32 × Hp} (hF : F_M_workers N p0 p1 H = some r) : ab_M y_M_workers { frames := 0, cells := 0, slots := 0, locals := 0 } [.ref p0, .int p1] (hpw H) (po (.returned (some (.int r.1))) r.2) := by
  unfold F_M_workers at hF
  refine ab_of2 (lv := [some (.ref p0), some (.int p1), none, none]) 2 rfl rfl (Nat.le_of_ble_eq_true rfl) ?_
  refine ab_iconst (v := 0) d_M_workers_0 (by decide) ?_
  refine ab_istore_n (lv' := [some (.ref p0), some (.int p1), some (.int 0), none]) d_M_workers_1 rfl (by decide) rfl ?_
  refine ab_iconst (v := 0) d_M_workers_2 (by decide) ?_
  refine ab_istore_n (lv' := [some (.ref p0), some (.int p1), some (.int 0), some (.int 0)]) d_M_workers_3 rfl (by decide) rfl ?_
  exact kB_M_workers_4 N 0 0 H r hF
def y_M_slot : ab_Y := (⟨"WorldEngineModel", "slot", "(II)I"⟩, prog_14_method_17_code, 3, (some FieldType.int), [])
theorem d_M_slot_0 : decode y_M_slot.2.1 0 = .ok (.bipush 64, 2) := by decide +kernel
theorem d_M_slot_2 : decode y_M_slot.2.1 2 = .ok (.iload_n 1, 1) := by decide +kernel
theorem d_M_slot_3 : decode y_M_slot.2.1 3 = .ok (.imul, 1) := by decide +kernel
theorem d_M_slot_4 : decode y_M_slot.2.1 4 = .ok (.iload_n 2, 1) := by decide +kernel
theorem d_M_slot_5 : decode y_M_slot.2.1 5 = .ok (.bipush 63, 2) := by decide +kernel
theorem d_M_slot_7 : decode y_M_slot.2.1 7 = .ok (.iand, 1) := by decide +kernel
theorem d_M_slot_8 : decode y_M_slot.2.1 8 = .ok (.iadd, 1) := by decide +kernel
theorem d_M_slot_9 : decode y_M_slot.2.1 9 = .ok (.ireturn, 1) := by decide +kernel
theorem s_M_slot : ab_Stat y_M_slot 2 := ⟨(k11 213 rfl rfl), (k1 19 rfl rfl), ⟨by decide, by decide⟩, by decide +kernel⟩
theorem i_M_slot : Cond.instanceMethod y_M_slot.1 ∈ ab_T := (k11 212 rfl rfl)
theorem v_M_slot : Cond.selects "WorldEngineModel" y_M_slot.1 y_M_slot.1 ∈ ab_T := ab_s (List.mem_of_getElem? (i := 174) rfl) rfl
def F_M_slot (N : Nat) (p0 : Nat) (p1 : Int32) (p2 : Int32) (H : Hp) : Option (Int32 × Hp) :=
    some (((64 : Int32) * p1) + (p2 &&& (63 : Int32)), H)
set_option maxRecDepth 20000 in
set_option maxHeartbeats 2000000 in
theorem m_M_slot {N : Nat} {p0 : Nat} {p1 : Int32} {p2 : Int32} {H : Hp} {r : Int32 × Hp} (hF : F_M_slot N p0 p1 p2 H = some r) : Sa H r.2 := by
  unfold F_M_slot at hF
  have hm := Sa.rf H
  have hr := Option.some.inj hF; subst hr
  exact hm
set_option maxRecDepth 20000 in
set_option maxHeartbeats 2000000 in
theorem k_M_slot {N : Nat} {p0 : Nat} {p1 : Int32} {p2 : Int32} {H : Hp} {r : Int32 × Hp} (hF : F_M_slot N p0 p1 p2 H = some r) : ab_M y_M_slot { frames := 0, cells := 0, slots := 0, locals := 0 } [.ref p0, .int p1, .int p2] (hpw H) (po (.returned (some (.int r.1))) r.2) := by
  unfold F_M_slot at hF
  refine ab_of2 (lv := [some (.ref p0), some (.int p1), some (.int p2)]) 0 rfl rfl (Nat.le_of_ble_eq_true rfl) ?_
  refine ab_bipush (v := 64) d_M_slot_0 (by decide) ?_
  refine ab_iload_n d_M_slot_2 rfl rfl ?_
  refine ab_imul d_M_slot_3 ?_
  refine ab_iload_n d_M_slot_4 rfl rfl ?_
  refine ab_bipush (v := 63) d_M_slot_5 (by decide) ?_
  refine ab_iand d_M_slot_7 ?_
  refine ab_iadd d_M_slot_8 ?_
  exact ab_iret d_M_slot_9 rfl (Nat.le_refl _) (Nat.le_refl _) (by have hr := Option.some.inj hF; subst hr; exact ⟨rfl, rfl⟩)
