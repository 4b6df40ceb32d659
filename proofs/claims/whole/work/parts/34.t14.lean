def y_Body_nameValue : ab_Y := (⟨"WorldEngine$Body", "nameValue", "()I"⟩, prog_2_method_44_code, 9, (some FieldType.int), [])
theorem d_Body_nameValue_0 : decode y_Body_nameValue.2.1 0 = .ok (.aload_n 0, 1) := by decide +kernel
theorem d_Body_nameValue_1 : decode y_Body_nameValue.2.1 1 = .ok (.getfield 7, 3) := by decide +kernel
theorem d_Body_nameValue_4 : decode y_Body_nameValue.2.1 4 = .ok (.getfield 96, 3) := by decide +kernel
theorem d_Body_nameValue_7 : decode y_Body_nameValue.2.1 7 = .ok (.istore_n 1, 1) := by decide +kernel
theorem d_Body_nameValue_8 : decode y_Body_nameValue.2.1 8 = .ok (.aload_n 0, 1) := by decide +kernel
theorem d_Body_nameValue_9 : decode y_Body_nameValue.2.1 9 = .ok (.invokevirtual 184, 3) := by decide +kernel
theorem d_Body_nameValue_12 : decode y_Body_nameValue.2.1 12 = .ok (.astore_n 2, 1) := by decide +kernel
theorem d_Body_nameValue_13 : decode y_Body_nameValue.2.1 13 = .ok (.aload_n 0, 1) := by decide +kernel
theorem d_Body_nameValue_14 : decode y_Body_nameValue.2.1 14 = .ok (.getfield 7, 3) := by decide +kernel
theorem d_Body_nameValue_17 : decode y_Body_nameValue.2.1 17 = .ok (.getfield 45, 3) := by decide +kernel
theorem d_Body_nameValue_20 : decode y_Body_nameValue.2.1 20 = .ok (.bipush 16, 2) := by decide +kernel
theorem d_Body_nameValue_22 : decode y_Body_nameValue.2.1 22 = .ok (.if_icmp .eq 46, 3) := by decide +kernel
theorem d_Body_nameValue_25 : decode y_Body_nameValue.2.1 25 = .ok (.aload_n 2, 1) := by decide +kernel
theorem d_Body_nameValue_26 : decode y_Body_nameValue.2.1 26 = .ok (.invokevirtual 270, 3) := by decide +kernel
theorem d_Body_nameValue_29 : decode y_Body_nameValue.2.1 29 = .ok (.ifCond .ne 12, 3) := by decide +kernel
theorem d_Body_nameValue_32 : decode y_Body_nameValue.2.1 32 = .ok (.aload_n 0, 1) := by decide +kernel
theorem d_Body_nameValue_33 : decode y_Body_nameValue.2.1 33 = .ok (.getfield 7, 3) := by decide +kernel
theorem d_Body_nameValue_36 : decode y_Body_nameValue.2.1 36 = .ok (.iconst 5, 1) := by decide +kernel
theorem d_Body_nameValue_37 : decode y_Body_nameValue.2.1 37 = .ok (.iload_n 1, 1) := by decide +kernel
theorem d_Body_nameValue_38 : decode y_Body_nameValue.2.1 38 = .ok (.invokevirtual 99, 3) := by decide +kernel
theorem d_Body_nameValue_41 : decode y_Body_nameValue.2.1 41 = .ok (.aload_n 0, 1) := by decide +kernel
theorem d_Body_nameValue_42 : decode y_Body_nameValue.2.1 42 = .ok (.getfield 17, 3) := by decide +kernel
theorem d_Body_nameValue_45 : decode y_Body_nameValue.2.1 45 = .ok (.bipush 33, 2) := by decide +kernel
theorem d_Body_nameValue_47 : decode y_Body_nameValue.2.1 47 = .ok (.invokevirtual 50, 3) := by decide +kernel
theorem d_Body_nameValue_50 : decode y_Body_nameValue.2.1 50 = .ok (.pop, 1) := by decide +kernel
theorem d_Body_nameValue_51 : decode y_Body_nameValue.2.1 51 = .ok (.aload_n 0, 1) := by decide +kernel
theorem d_Body_nameValue_52 : decode y_Body_nameValue.2.1 52 = .ok (.getfield 17, 3) := by decide +kernel
theorem d_Body_nameValue_55 : decode y_Body_nameValue.2.1 55 = .ok (.aload_n 2, 1) := by decide +kernel
theorem d_Body_nameValue_56 : decode y_Body_nameValue.2.1 56 = .ok (.getfield 191, 3) := by decide +kernel
theorem d_Body_nameValue_59 : decode y_Body_nameValue.2.1 59 = .ok (.invokevirtual 50, 3) := by decide +kernel
theorem d_Body_nameValue_62 : decode y_Body_nameValue.2.1 62 = .ok (.pop, 1) := by decide +kernel
theorem d_Body_nameValue_63 : decode y_Body_nameValue.2.1 63 = .ok (.aload_n 2, 1) := by decide +kernel
theorem d_Body_nameValue_64 : decode y_Body_nameValue.2.1 64 = .ok (.getfield 170, 3) := by decide +kernel
theorem d_Body_nameValue_67 : decode y_Body_nameValue.2.1 67 = .ok (.ireturn, 1) := by decide +kernel
theorem d_Body_nameValue_68 : decode y_Body_nameValue.2.1 68 = .ok (.aload_n 2, 1) := by decide +kernel
theorem d_Body_nameValue_69 : decode y_Body_nameValue.2.1 69 = .ok (.getfield 188, 3) := by decide +kernel
theorem d_Body_nameValue_72 : decode y_Body_nameValue.2.1 72 = .ok (.iconst 1, 1) := by decide +kernel
theorem d_Body_nameValue_73 : decode y_Body_nameValue.2.1 73 = .ok (.if_icmp .ne 14, 3) := by decide +kernel
theorem d_Body_nameValue_76 : decode y_Body_nameValue.2.1 76 = .ok (.aload_n 0, 1) := by decide +kernel
theorem d_Body_nameValue_77 : decode y_Body_nameValue.2.1 77 = .ok (.aload_n 2, 1) := by decide +kernel
theorem d_Body_nameValue_78 : decode y_Body_nameValue.2.1 78 = .ok (.getfield 191, 3) := by decide +kernel
theorem d_Body_nameValue_81 : decode y_Body_nameValue.2.1 81 = .ok (.invokevirtual 274, 3) := by decide +kernel
theorem d_Body_nameValue_84 : decode y_Body_nameValue.2.1 84 = .ok (.goto 4, 3) := by decide +kernel
theorem d_Body_nameValue_87 : decode y_Body_nameValue.2.1 87 = .ok (.iconst (-1), 1) := by decide +kernel
theorem d_Body_nameValue_88 : decode y_Body_nameValue.2.1 88 = .ok (.istore_n 3, 1) := by decide +kernel
theorem d_Body_nameValue_89 : decode y_Body_nameValue.2.1 89 = .ok (.aload_n 2, 1) := by decide +kernel
theorem d_Body_nameValue_90 : decode y_Body_nameValue.2.1 90 = .ok (.getfield 188, 3) := by decide +kernel
theorem d_Body_nameValue_93 : decode y_Body_nameValue.2.1 93 = .ok (.ifCond .ne 30, 3) := by decide +kernel
theorem d_Body_nameValue_96 : decode y_Body_nameValue.2.1 96 = .ok (.aload_n 0, 1) := by decide +kernel
theorem d_Body_nameValue_97 : decode y_Body_nameValue.2.1 97 = .ok (.getfield 17, 3) := by decide +kernel
theorem d_Body_nameValue_100 : decode y_Body_nameValue.2.1 100 = .ok (.getfield 157, 3) := by decide +kernel
theorem d_Body_nameValue_103 : decode y_Body_nameValue.2.1 103 = .ok (.aload_n 0, 1) := by decide +kernel
theorem d_Body_nameValue_104 : decode y_Body_nameValue.2.1 104 = .ok (.getfield 27, 3) := by decide +kernel
theorem d_Body_nameValue_107 : decode y_Body_nameValue.2.1 107 = .ok (.iaload, 1) := by decide +kernel
theorem d_Body_nameValue_108 : decode y_Body_nameValue.2.1 108 = .ok (.aload_n 2, 1) := by decide +kernel
theorem d_Body_nameValue_109 : decode y_Body_nameValue.2.1 109 = .ok (.getfield 191, 3) := by decide +kernel
theorem d_Body_nameValue_112 : decode y_Body_nameValue.2.1 112 = .ok (.ishr, 1) := by decide +kernel
theorem d_Body_nameValue_113 : decode y_Body_nameValue.2.1 113 = .ok (.iconst 1, 1) := by decide +kernel
theorem d_Body_nameValue_114 : decode y_Body_nameValue.2.1 114 = .ok (.iand, 1) := by decide +kernel
theorem d_Body_nameValue_115 : decode y_Body_nameValue.2.1 115 = .ok (.iconst 1, 1) := by decide +kernel
theorem d_Body_nameValue_116 : decode y_Body_nameValue.2.1 116 = .ok (.if_icmp .ne 7, 3) := by decide +kernel
theorem d_Body_nameValue_119 : decode y_Body_nameValue.2.1 119 = .ok (.iconst 1, 1) := by decide +kernel
theorem d_Body_nameValue_120 : decode y_Body_nameValue.2.1 120 = .ok (.goto 4, 3) := by decide +kernel
theorem d_Body_nameValue_123 : decode y_Body_nameValue.2.1 123 = .ok (.iconst 0, 1) := by decide +kernel
theorem d_Body_nameValue_124 : decode y_Body_nameValue.2.1 124 = .ok (.istore 4, 2) := by decide +kernel
theorem d_Body_nameValue_126 : decode y_Body_nameValue.2.1 126 = .ok (.aload_n 2, 1) := by decide +kernel
theorem d_Body_nameValue_127 : decode y_Body_nameValue.2.1 127 = .ok (.invokevirtual 270, 3) := by decide +kernel
theorem d_Body_nameValue_130 : decode y_Body_nameValue.2.1 130 = .ok (.ifCond .eq 15, 3) := by decide +kernel
theorem d_Body_nameValue_133 : decode y_Body_nameValue.2.1 133 = .ok (.aload_n 2, 1) := by decide +kernel
theorem d_Body_nameValue_134 : decode y_Body_nameValue.2.1 134 = .ok (.getfield 170, 3) := by decide +kernel
theorem d_Body_nameValue_137 : decode y_Body_nameValue.2.1 137 = .ok (.iconst 4, 1) := by decide +kernel
theorem d_Body_nameValue_138 : decode y_Body_nameValue.2.1 138 = .ok (.if_icmp .ne 7, 3) := by decide +kernel
theorem d_Body_nameValue_141 : decode y_Body_nameValue.2.1 141 = .ok (.iconst 1, 1) := by decide +kernel
theorem d_Body_nameValue_142 : decode y_Body_nameValue.2.1 142 = .ok (.goto 4, 3) := by decide +kernel
theorem d_Body_nameValue_145 : decode y_Body_nameValue.2.1 145 = .ok (.iconst 0, 1) := by decide +kernel
theorem d_Body_nameValue_146 : decode y_Body_nameValue.2.1 146 = .ok (.istore 5, 2) := by decide +kernel
theorem d_Body_nameValue_148 : decode y_Body_nameValue.2.1 148 = .ok (.iload 4, 2) := by decide +kernel
theorem d_Body_nameValue_150 : decode y_Body_nameValue.2.1 150 = .ok (.ifCond .ne 21, 3) := by decide +kernel
theorem d_Body_nameValue_153 : decode y_Body_nameValue.2.1 153 = .ok (.iload 5, 2) := by decide +kernel
theorem d_Body_nameValue_155 : decode y_Body_nameValue.2.1 155 = .ok (.ifCond .ne 16, 3) := by decide +kernel
theorem d_Body_nameValue_158 : decode y_Body_nameValue.2.1 158 = .ok (.iload_n 3, 1) := by decide +kernel
theorem d_Body_nameValue_159 : decode y_Body_nameValue.2.1 159 = .ok (.ifCond .ge 12, 3) := by decide +kernel
theorem d_Body_nameValue_162 : decode y_Body_nameValue.2.1 162 = .ok (.aload_n 0, 1) := by decide +kernel
theorem d_Body_nameValue_163 : decode y_Body_nameValue.2.1 163 = .ok (.getfield 7, 3) := by decide +kernel
theorem d_Body_nameValue_166 : decode y_Body_nameValue.2.1 166 = .ok (.iconst 5, 1) := by decide +kernel
theorem d_Body_nameValue_167 : decode y_Body_nameValue.2.1 167 = .ok (.iload_n 1, 1) := by decide +kernel
theorem d_Body_nameValue_168 : decode y_Body_nameValue.2.1 168 = .ok (.invokevirtual 99, 3) := by decide +kernel
theorem d_Body_nameValue_171 : decode y_Body_nameValue.2.1 171 = .ok (.aload_n 0, 1) := by decide +kernel
theorem d_Body_nameValue_172 : decode y_Body_nameValue.2.1 172 = .ok (.getfield 7, 3) := by decide +kernel
theorem d_Body_nameValue_175 : decode y_Body_nameValue.2.1 175 = .ok (.invokevirtual 93, 3) := by decide +kernel
theorem d_Body_nameValue_178 : decode y_Body_nameValue.2.1 178 = .ok (.iload_n 3, 1) := by decide +kernel
theorem d_Body_nameValue_179 : decode y_Body_nameValue.2.1 179 = .ok (.ifCond .lt 85, 3) := by decide +kernel
theorem d_Body_nameValue_182 : decode y_Body_nameValue.2.1 182 = .ok (.aload_n 0, 1) := by decide +kernel
theorem d_Body_nameValue_183 : decode y_Body_nameValue.2.1 183 = .ok (.aload_n 0, 1) := by decide +kernel
theorem d_Body_nameValue_184 : decode y_Body_nameValue.2.1 184 = .ok (.getfield 17, 3) := by decide +kernel
theorem d_Body_nameValue_187 : decode y_Body_nameValue.2.1 187 = .ok (.getfield 224, 3) := by decide +kernel
theorem d_Body_nameValue_190 : decode y_Body_nameValue.2.1 190 = .ok (.aload_n 2, 1) := by decide +kernel
theorem d_Body_nameValue_191 : decode y_Body_nameValue.2.1 191 = .ok (.getfield 191, 3) := by decide +kernel
theorem d_Body_nameValue_194 : decode y_Body_nameValue.2.1 194 = .ok (.invokevirtual 198, 3) := by decide +kernel
theorem d_Body_nameValue_197 : decode y_Body_nameValue.2.1 197 = .ok (.istore 6, 2) := by decide +kernel
theorem d_Body_nameValue_199 : decode y_Body_nameValue.2.1 199 = .ok (.aload_n 0, 1) := by decide +kernel
theorem d_Body_nameValue_200 : decode y_Body_nameValue.2.1 200 = .ok (.getfield 17, 3) := by decide +kernel
theorem d_Body_nameValue_203 : decode y_Body_nameValue.2.1 203 = .ok (.bipush 37, 2) := by decide +kernel
theorem d_Body_nameValue_205 : decode y_Body_nameValue.2.1 205 = .ok (.invokevirtual 50, 3) := by decide +kernel
theorem d_Body_nameValue_208 : decode y_Body_nameValue.2.1 208 = .ok (.pop, 1) := by decide +kernel
theorem d_Body_nameValue_209 : decode y_Body_nameValue.2.1 209 = .ok (.aload_n 0, 1) := by decide +kernel
theorem d_Body_nameValue_210 : decode y_Body_nameValue.2.1 210 = .ok (.getfield 17, 3) := by decide +kernel
theorem d_Body_nameValue_213 : decode y_Body_nameValue.2.1 213 = .ok (.iload_n 3, 1) := by decide +kernel
theorem d_Body_nameValue_214 : decode y_Body_nameValue.2.1 214 = .ok (.invokevirtual 50, 3) := by decide +kernel
theorem d_Body_nameValue_217 : decode y_Body_nameValue.2.1 217 = .ok (.pop, 1) := by decide +kernel
theorem d_Body_nameValue_218 : decode y_Body_nameValue.2.1 218 = .ok (.aload_n 0, 1) := by decide +kernel
theorem d_Body_nameValue_219 : decode y_Body_nameValue.2.1 219 = .ok (.getfield 17, 3) := by decide +kernel
theorem d_Body_nameValue_222 : decode y_Body_nameValue.2.1 222 = .ok (.iload 6, 2) := by decide +kernel
theorem d_Body_nameValue_224 : decode y_Body_nameValue.2.1 224 = .ok (.aload_n 0, 1) := by decide +kernel
theorem d_Body_nameValue_225 : decode y_Body_nameValue.2.1 225 = .ok (.getfield 17, 3) := by decide +kernel
theorem d_Body_nameValue_228 : decode y_Body_nameValue.2.1 228 = .ok (.getfield 224, 3) := by decide +kernel
theorem d_Body_nameValue_231 : decode y_Body_nameValue.2.1 231 = .ok (.getfield 152, 3) := by decide +kernel
theorem d_Body_nameValue_234 : decode y_Body_nameValue.2.1 234 = .ok (.aload_n 2, 1) := by decide +kernel
theorem d_Body_nameValue_235 : decode y_Body_nameValue.2.1 235 = .ok (.getfield 191, 3) := by decide +kernel
theorem d_Body_nameValue_238 : decode y_Body_nameValue.2.1 238 = .ok (.iaload, 1) := by decide +kernel
theorem d_Body_nameValue_239 : decode y_Body_nameValue.2.1 239 = .ok (.isub, 1) := by decide +kernel
theorem d_Body_nameValue_240 : decode y_Body_nameValue.2.1 240 = .ok (.invokevirtual 50, 3) := by decide +kernel
theorem d_Body_nameValue_243 : decode y_Body_nameValue.2.1 243 = .ok (.pop, 1) := by decide +kernel
theorem d_Body_nameValue_244 : decode y_Body_nameValue.2.1 244 = .ok (.aload_n 0, 1) := by decide +kernel
theorem d_Body_nameValue_245 : decode y_Body_nameValue.2.1 245 = .ok (.getfield 17, 3) := by decide +kernel
theorem d_Body_nameValue_248 : decode y_Body_nameValue.2.1 248 = .ok (.getfield 224, 3) := by decide +kernel
theorem d_Body_nameValue_251 : decode y_Body_nameValue.2.1 251 = .ok (.getfield 166, 3) := by decide +kernel
theorem d_Body_nameValue_254 : decode y_Body_nameValue.2.1 254 = .ok (.iload 6, 2) := by decide +kernel
theorem d_Body_nameValue_256 : decode y_Body_nameValue.2.1 256 = .ok (.aaload, 1) := by decide +kernel
theorem d_Body_nameValue_257 : decode y_Body_nameValue.2.1 257 = .ok (.getfield 170, 3) := by decide +kernel
theorem d_Body_nameValue_260 : decode y_Body_nameValue.2.1 260 = .ok (.invokestatic 230, 3) := by decide +kernel
theorem d_Body_nameValue_263 : decode y_Body_nameValue.2.1 263 = .ok (.ireturn, 1) := by decide +kernel
theorem d_Body_nameValue_264 : decode y_Body_nameValue.2.1 264 = .ok (.aload_n 2, 1) := by decide +kernel
theorem d_Body_nameValue_265 : decode y_Body_nameValue.2.1 265 = .ok (.getfield 191, 3) := by decide +kernel
theorem d_Body_nameValue_268 : decode y_Body_nameValue.2.1 268 = .ok (.istore 6, 2) := by decide +kernel
theorem d_Body_nameValue_270 : decode y_Body_nameValue.2.1 270 = .ok (.iload 5, 2) := by decide +kernel
theorem d_Body_nameValue_272 : decode y_Body_nameValue.2.1 272 = .ok (.ifCond .eq 120, 3) := by decide +kernel
theorem d_Body_nameValue_275 : decode y_Body_nameValue.2.1 275 = .ok (.aload_n 0, 1) := by decide +kernel
theorem d_Body_nameValue_276 : decode y_Body_nameValue.2.1 276 = .ok (.getfield 7, 3) := by decide +kernel
theorem d_Body_nameValue_279 : decode y_Body_nameValue.2.1 279 = .ok (.getfield 96, 3) := by decide +kernel
theorem d_Body_nameValue_282 : decode y_Body_nameValue.2.1 282 = .ok (.istore 7, 2) := by decide +kernel
theorem d_Body_nameValue_284 : decode y_Body_nameValue.2.1 284 = .ok (.aload_n 0, 1) := by decide +kernel
theorem d_Body_nameValue_285 : decode y_Body_nameValue.2.1 285 = .ok (.invokevirtual 184, 3) := by decide +kernel
theorem d_Body_nameValue_288 : decode y_Body_nameValue.2.1 288 = .ok (.astore 8, 2) := by decide +kernel
theorem d_Body_nameValue_290 : decode y_Body_nameValue.2.1 290 = .ok (.aload 8, 2) := by decide +kernel
theorem d_Body_nameValue_292 : decode y_Body_nameValue.2.1 292 = .ok (.getfield 188, 3) := by decide +kernel
theorem d_Body_nameValue_295 : decode y_Body_nameValue.2.1 295 = .ok (.ifCond .ne 26, 3) := by decide +kernel
theorem d_Body_nameValue_298 : decode y_Body_nameValue.2.1 298 = .ok (.aload_n 0, 1) := by decide +kernel
theorem d_Body_nameValue_299 : decode y_Body_nameValue.2.1 299 = .ok (.getfield 17, 3) := by decide +kernel
theorem d_Body_nameValue_302 : decode y_Body_nameValue.2.1 302 = .ok (.getfield 160, 3) := by decide +kernel
theorem d_Body_nameValue_305 : decode y_Body_nameValue.2.1 305 = .ok (.aload_n 0, 1) := by decide +kernel
theorem d_Body_nameValue_306 : decode y_Body_nameValue.2.1 306 = .ok (.getfield 27, 3) := by decide +kernel
theorem d_Body_nameValue_309 : decode y_Body_nameValue.2.1 309 = .ok (.iaload, 1) := by decide +kernel
theorem d_Body_nameValue_310 : decode y_Body_nameValue.2.1 310 = .ok (.aload 8, 2) := by decide +kernel
theorem d_Body_nameValue_312 : decode y_Body_nameValue.2.1 312 = .ok (.getfield 191, 3) := by decide +kernel
theorem d_Body_nameValue_315 : decode y_Body_nameValue.2.1 315 = .ok (.ishr, 1) := by decide +kernel
theorem d_Body_nameValue_316 : decode y_Body_nameValue.2.1 316 = .ok (.iconst 1, 1) := by decide +kernel
theorem d_Body_nameValue_317 : decode y_Body_nameValue.2.1 317 = .ok (.iand, 1) := by decide +kernel
theorem d_Body_nameValue_318 : decode y_Body_nameValue.2.1 318 = .ok (.ifCond .ne 13, 3) := by decide +kernel
theorem d_Body_nameValue_321 : decode y_Body_nameValue.2.1 321 = .ok (.aload_n 0, 1) := by decide +kernel
theorem d_Body_nameValue_322 : decode y_Body_nameValue.2.1 322 = .ok (.getfield 7, 3) := by decide +kernel
theorem d_Body_nameValue_325 : decode y_Body_nameValue.2.1 325 = .ok (.iconst 5, 1) := by decide +kernel
theorem d_Body_nameValue_326 : decode y_Body_nameValue.2.1 326 = .ok (.iload 7, 2) := by decide +kernel
theorem d_Body_nameValue_328 : decode y_Body_nameValue.2.1 328 = .ok (.invokevirtual 99, 3) := by decide +kernel
theorem d_Body_nameValue_331 : decode y_Body_nameValue.2.1 331 = .ok (.aload 8, 2) := by decide +kernel
theorem d_Body_nameValue_333 : decode y_Body_nameValue.2.1 333 = .ok (.getfield 191, 3) := by decide +kernel
theorem d_Body_nameValue_336 : decode y_Body_nameValue.2.1 336 = .ok (.istore 6, 2) := by decide +kernel
theorem d_Body_nameValue_338 : decode y_Body_nameValue.2.1 338 = .ok (.aload_n 0, 1) := by decide +kernel
theorem d_Body_nameValue_339 : decode y_Body_nameValue.2.1 339 = .ok (.getfield 7, 3) := by decide +kernel
theorem d_Body_nameValue_342 : decode y_Body_nameValue.2.1 342 = .ok (.bipush 16, 2) := by decide +kernel
theorem d_Body_nameValue_344 : decode y_Body_nameValue.2.1 344 = .ok (.invokevirtual 41, 3) := by decide +kernel
theorem d_Body_nameValue_347 : decode y_Body_nameValue.2.1 347 = .ok (.aload_n 0, 1) := by decide +kernel
theorem d_Body_nameValue_348 : decode y_Body_nameValue.2.1 348 = .ok (.getfield 17, 3) := by decide +kernel
theorem d_Body_nameValue_351 : decode y_Body_nameValue.2.1 351 = .ok (.bipush 33, 2) := by decide +kernel
theorem d_Body_nameValue_353 : decode y_Body_nameValue.2.1 353 = .ok (.invokevirtual 50, 3) := by decide +kernel
theorem d_Body_nameValue_356 : decode y_Body_nameValue.2.1 356 = .ok (.pop, 1) := by decide +kernel
theorem d_Body_nameValue_357 : decode y_Body_nameValue.2.1 357 = .ok (.aload_n 0, 1) := by decide +kernel
theorem d_Body_nameValue_358 : decode y_Body_nameValue.2.1 358 = .ok (.getfield 17, 3) := by decide +kernel
theorem d_Body_nameValue_361 : decode y_Body_nameValue.2.1 361 = .ok (.aload_n 2, 1) := by decide +kernel
theorem d_Body_nameValue_362 : decode y_Body_nameValue.2.1 362 = .ok (.getfield 191, 3) := by decide +kernel
theorem d_Body_nameValue_365 : decode y_Body_nameValue.2.1 365 = .ok (.invokevirtual 50, 3) := by decide +kernel
theorem d_Body_nameValue_368 : decode y_Body_nameValue.2.1 368 = .ok (.pop, 1) := by decide +kernel
theorem d_Body_nameValue_369 : decode y_Body_nameValue.2.1 369 = .ok (.aload_n 0, 1) := by decide +kernel
theorem d_Body_nameValue_370 : decode y_Body_nameValue.2.1 370 = .ok (.getfield 17, 3) := by decide +kernel
theorem d_Body_nameValue_373 : decode y_Body_nameValue.2.1 373 = .ok (.bipush 38, 2) := by decide +kernel
theorem d_Body_nameValue_375 : decode y_Body_nameValue.2.1 375 = .ok (.invokevirtual 50, 3) := by decide +kernel
theorem d_Body_nameValue_378 : decode y_Body_nameValue.2.1 378 = .ok (.pop, 1) := by decide +kernel
theorem d_Body_nameValue_379 : decode y_Body_nameValue.2.1 379 = .ok (.aload_n 0, 1) := by decide +kernel
theorem d_Body_nameValue_380 : decode y_Body_nameValue.2.1 380 = .ok (.getfield 17, 3) := by decide +kernel
theorem d_Body_nameValue_383 : decode y_Body_nameValue.2.1 383 = .ok (.iload 6, 2) := by decide +kernel
theorem d_Body_nameValue_385 : decode y_Body_nameValue.2.1 385 = .ok (.invokevirtual 50, 3) := by decide +kernel
theorem d_Body_nameValue_388 : decode y_Body_nameValue.2.1 388 = .ok (.pop, 1) := by decide +kernel
theorem d_Body_nameValue_389 : decode y_Body_nameValue.2.1 389 = .ok (.goto 13, 3) := by decide +kernel
theorem d_Body_nameValue_392 : decode y_Body_nameValue.2.1 392 = .ok (.aload_n 0, 1) := by decide +kernel
theorem d_Body_nameValue_393 : decode y_Body_nameValue.2.1 393 = .ok (.getfield 17, 3) := by decide +kernel
theorem d_Body_nameValue_396 : decode y_Body_nameValue.2.1 396 = .ok (.bipush 35, 2) := by decide +kernel
theorem d_Body_nameValue_398 : decode y_Body_nameValue.2.1 398 = .ok (.invokevirtual 50, 3) := by decide +kernel
theorem d_Body_nameValue_401 : decode y_Body_nameValue.2.1 401 = .ok (.pop, 1) := by decide +kernel
theorem d_Body_nameValue_402 : decode y_Body_nameValue.2.1 402 = .ok (.aload_n 0, 1) := by decide +kernel
theorem d_Body_nameValue_403 : decode y_Body_nameValue.2.1 403 = .ok (.aload_n 0, 1) := by decide +kernel
theorem d_Body_nameValue_404 : decode y_Body_nameValue.2.1 404 = .ok (.getfield 17, 3) := by decide +kernel
theorem d_Body_nameValue_407 : decode y_Body_nameValue.2.1 407 = .ok (.getfield 148, 3) := by decide +kernel
theorem d_Body_nameValue_410 : decode y_Body_nameValue.2.1 410 = .ok (.iload 6, 2) := by decide +kernel
theorem d_Body_nameValue_412 : decode y_Body_nameValue.2.1 412 = .ok (.invokevirtual 198, 3) := by decide +kernel
theorem d_Body_nameValue_415 : decode y_Body_nameValue.2.1 415 = .ok (.istore 7, 2) := by decide +kernel
theorem d_Body_nameValue_417 : decode y_Body_nameValue.2.1 417 = .ok (.aload_n 0, 1) := by decide +kernel
theorem d_Body_nameValue_418 : decode y_Body_nameValue.2.1 418 = .ok (.getfield 17, 3) := by decide +kernel
theorem d_Body_nameValue_421 : decode y_Body_nameValue.2.1 421 = .ok (.iload 7, 2) := by decide +kernel
theorem d_Body_nameValue_423 : decode y_Body_nameValue.2.1 423 = .ok (.invokevirtual 50, 3) := by decide +kernel
theorem d_Body_nameValue_426 : decode y_Body_nameValue.2.1 426 = .ok (.pop, 1) := by decide +kernel
theorem d_Body_nameValue_427 : decode y_Body_nameValue.2.1 427 = .ok (.aload_n 0, 1) := by decide +kernel
theorem d_Body_nameValue_428 : decode y_Body_nameValue.2.1 428 = .ok (.iload 7, 2) := by decide +kernel
theorem d_Body_nameValue_430 : decode y_Body_nameValue.2.1 430 = .ok (.invokevirtual 208, 3) := by decide +kernel
theorem d_Body_nameValue_433 : decode y_Body_nameValue.2.1 433 = .ok (.invokestatic 230, 3) := by decide +kernel
theorem d_Body_nameValue_436 : decode y_Body_nameValue.2.1 436 = .ok (.ireturn, 1) := by decide +kernel
theorem s_Body_nameValue : ab_Stat y_Body_nameValue 0 := ⟨(k5 188 rfl rfl), (k1 8 rfl rfl), ⟨by decide, by decide⟩, by decide +kernel⟩
theorem i_Body_nameValue : Cond.instanceMethod y_Body_nameValue.1 ∈ ab_T := (k5 187 rfl rfl)
theorem v_Body_nameValue : Cond.selects "WorldEngine$Body" y_Body_nameValue.1 y_Body_nameValue.1 ∈ ab_T := ab_s (List.mem_of_getElem? (i := 37) rfl) rfl
def B_Body_nameValue_402 (N : Nat) (p0 : Nat) (l6 : Int32) (H : Hp) : Option ((Ot Int32) × Hp) :=
    ck (H.sh[p0]? = some (6, 0)) <|
    rf (H.P p0 1) fun a50 =>
    ck (H.sh[a50]? = some (4, 0)) <|
    rf (H.P a50 2) fun a53 =>
    bT (F_Body_memberHere N p0 a53 l6 H) fun v56 H57 =>
    rf (H57.P p0 1) fun a59 =>
    ck (H57.sh[a59]? = some (4, 0)) <|
    bC (F_Program_add N a59 v56 H57) fun v63 H64 =>
    bC (F_Body_kindAt N p0 v56 H64) fun v66 H67 =>
    bC (F_Body_asValue N v66 H67) fun v69 H70 =>
    some (.inl v69, H70)
set_option maxRecDepth 20000 in
set_option maxHeartbeats 2000000 in
theorem mB_Body_nameValue_402 {N : Nat} {p0 : Nat} {l6 : Int32} {H : Hp} {r : (Ot Int32) × Hp} (hF : B_Body_nameValue_402 N p0 l6 H = some r) : Mo H r.2 := by
  unfold B_Body_nameValue_402 at hF
  have hm := Mo.rf H
  obtain ⟨q71, hG⟩ := ck_s hF; clear hF
  obtain ⟨a72, e73, hF⟩ := rf_s hG; clear hG
  obtain ⟨q74, hG⟩ := ck_s hF; clear hF
  obtain ⟨a75, e76, hF⟩ := rf_s hG; clear hG
  refine bT_c hF (fun x80 H79 z77 er => ?_) (fun v78 H79 z77 hG => ?_)
  · subst er; exact hm.tr (m_Body_memberHere z77)
  clear hF
  replace hm : Mo H H79 := hm.tr (m_Body_memberHere z77)
  obtain ⟨a81, e82, hF⟩ := rf_s hG; clear hG
  obtain ⟨q83, hG⟩ := ck_s hF; clear hF
  obtain ⟨v85, H86, z84, hF⟩ := bC_s hG; clear hG
  replace hm : Mo H H86 := hm.tr ((m_Program_add z84)).mo
  obtain ⟨v88, H89, z87, hG⟩ := bC_s hF; clear hF
  replace hm : Mo H H89 := hm.tr ((m_Body_kindAt z87)).mo
  obtain ⟨v91, H92, z90, hF⟩ := bC_s hG; clear hG
  replace hm : Mo H H92 := hm.tr ((m_Body_asValue z90)).mo
  have hr := Option.some.inj hF; subst hr
  exact hm
set_option maxRecDepth 20000 in
set_option maxHeartbeats 2000000 in
theorem kB_Body_nameValue_402 {N : Nat} {p0 : Nat} {c0 s0 C Sl : Nat} {l6 : Int32} {H : Hp} {r : (Ot Int32) × Hp} (hF : B_Body_nameValue_402 N p0 l6 H = some r) (hc0 : c0 ≤ H.sh.length) (hs0 : s0 ≤ H.sl) (hcc : H.sh.length ≤ c0 + C) (hss : H.sl ≤ s0 + Sl) (hC : r.2.sh.length ≤ c0 + C) (hS : r.2.sl ≤ s0 + Sl) : ab_V y_Body_nameValue { frames := 8, cells := C, slots := Sl, locals := 152 } (po (oI r.1) r.2) C Sl (H.sh.length - c0) (H.sl - s0) 402 [some (.ref p0), none, none, none, none, none, some (.int l6), none, none] [] (hpw H) := by
  unfold B_Body_nameValue_402 at hF
  refine ab_aload_n d_Body_nameValue_402 rfl rfl rfl ?_
  refine ab_aload_n d_Body_nameValue_403 rfl rfl rfl ?_
  obtain ⟨q49, hG⟩ := ck_s hF; clear hF
  obtain ⟨a50, e51, hF⟩ := rf_s hG; clear hG
  refine hp_getR (f := 1) d_Body_nameValue_404 q49 (by decide) rfl (by decide) (k1 158 rfl rfl) rfl e51 ?_
  obtain ⟨q52, hG⟩ := ck_s hF; clear hF
  obtain ⟨a53, e54, hF⟩ := rf_s hG; clear hG
  refine hp_getR (f := 2) d_Body_nameValue_407 q52 (by decide) rfl (by decide) (k3 60 rfl rfl) rfl e54 ?_
  refine ab_iload d_Body_nameValue_410 rfl ?_
  refine bT_c hF (fun x58 H57 z55 er => ?_) (fun v56 H57 z55 hG => ?_)
  · subst er
    have mz : Mo H H57 := (m_Body_memberHere z55)
    have ml := mz.len
    have m2 := mz.2
    have hC9 : H57.sh.length ≤ c0 + C := hC
    have hS9 : H57.sl ≤ s0 + Sl := hS
    refine hp_callV_t (x := x58) (H1 := H57) (As := [.ref a53, .int l6]) (rest := []) d_Body_nameValue_412 (k_Body_memberHere z55 (C := H57.sh.length - H.sh.length) (Sl := H57.sl - H.sl) (by show H57.sh.length ≤ _; omega) (by show H57.sl ≤ _; omega)) (ab_mkC s_Body_memberHere (Nat.le_of_ble_eq_true rfl) (Nat.le_of_ble_eq_true rfl) (show (H.sh.length - c0) + (H57.sh.length - H.sh.length) ≤ C from by omega) (show (H.sl - s0) + (H57.sl - H.sl) ≤ Sl from by omega)) (k5 197 rfl rfl) i_Body_memberHere v_Body_memberHere q49 (by decide) rfl rfl (Nat.le_of_ble_eq_true rfl) ?_
    exact ab_U_out rfl (by show _ + (H57.sh.length - H.sh.length) ≤ C; omega) (by show _ + (H57.sl - H.sl) ≤ Sl; omega) ⟨rfl, rfl⟩
  clear hF
  have mz_14 : Mo H H57 := (m_Body_memberHere z55)
  have b_15l := (mz_14).len
  have b_15s := (mz_14).2
  have b_15c : c0 ≤ H57.sh.length := by omega
  have b_15d : s0 ≤ H57.sl := by omega
  have q_16 := (mz_14).get q49
  have q_17 := (mz_14).get q52
  obtain ⟨a59, e60, hF⟩ := rf_s hG; clear hG
  obtain ⟨q61, hG⟩ := ck_s hF; clear hF
  obtain ⟨v63, H64, z62, hF⟩ := bC_s hG; clear hG
  have jH64 : Mo H57 H64 := ((m_Program_add z62)).mo
  obtain ⟨v66, H67, z65, hG⟩ := bC_s hF; clear hF
  have jH67 : Mo H64 H67 := ((m_Body_kindAt z65)).mo
  obtain ⟨v69, H70, z68, hF⟩ := bC_s hG; clear hG
  have jH70 : Mo H67 H70 := ((m_Body_asValue z68)).mo
  have fH70 : Mo H70 r.2 := by
    have hm := Mo.rf H70
    have hr := Option.some.inj hF; subst hr
    exact hm
  have fH67 : Mo H67 r.2 := jH70.tr fH70
  have fH64 : Mo H64 r.2 := jH67.tr fH67
  have fH57 : Mo H57 r.2 := jH64.tr fH64
  have b_15m := (fH57).len
  have b_15n := (fH57).2
  have b_15p : H57.sh.length ≤ c0 + C := by omega
  have b_15q : H57.sl ≤ s0 + Sl := by omega
  refine hp_callV_a (v := .int v56) (H1 := H57) (As := [.ref a53, .int l6]) (rest := []) d_Body_nameValue_412 (k_Body_memberHere z55 (C := H57.sh.length - H.sh.length) (Sl := H57.sl - H.sl) (by show H57.sh.length ≤ _; omega) (by show H57.sl ≤ _; omega)) (ab_mkC s_Body_memberHere (Nat.le_of_ble_eq_true rfl) (Nat.le_of_ble_eq_true rfl) (show (H.sh.length - c0) + (H57.sh.length - H.sh.length) ≤ C from by omega) (show (H.sl - s0) + (H57.sl - H.sl) ≤ Sl from by omega)) (k5 197 rfl rfl) i_Body_memberHere v_Body_memberHere q49 (by decide) rfl rfl (Nat.le_of_ble_eq_true rfl) ?_
  refine ab_widen (cells' := H57.sh.length - c0) (slots' := H57.sl - s0) (by show _ + (H57.sh.length - H.sh.length) ≤ _; omega) (by show _ + (H57.sl - H.sl) ≤ _; omega) ?_
  clear b_15l b_15s b_15m b_15n
  refine ab_istore (lv' := [some (.ref p0), none, none, none, none, none, some (.int l6), some (.int v56), none]) d_Body_nameValue_415 (by decide) rfl ?_
  refine ab_aload_n d_Body_nameValue_417 rfl rfl rfl ?_
  refine hp_getR (f := 1) d_Body_nameValue_418 q_16 (by decide) rfl (by decide) (k1 158 rfl rfl) rfl e60 ?_
  refine ab_iload d_Body_nameValue_421 rfl ?_
  refine hp_callV_a (v := .int v63) (H1 := H64) (As := [.int v56]) (rest := []) d_Body_nameValue_423 (k_Program_add z62) (ab_mkC s_Program_add (Nat.le_of_ble_eq_true rfl) (Nat.le_of_ble_eq_true rfl) (show (H57.sh.length - c0) + 0 ≤ C from by omega) (show (H57.sl - s0) + 0 ≤ Sl from by omega)) (k5 117 rfl rfl) i_Program_add v_Program_add q61 (by decide) rfl rfl (Nat.le_of_ble_eq_true rfl) ?_
  have s_22 : Sa H57 H64 := (m_Program_add z62)
  refine ab_widen (cells' := H57.sh.length - c0) (slots' := H57.sl - s0) (by show (H57.sh.length - c0) + 0 ≤ _; omega) (by show (H57.sl - s0) + 0 ≤ _; omega) ?_
  refine ab_pop d_Body_nameValue_426 rfl ?_
  refine ab_aload_n d_Body_nameValue_427 rfl rfl rfl ?_
  refine ab_iload d_Body_nameValue_428 rfl ?_
  refine ab_widen (cells' := H64.sh.length - c0) (slots' := H64.sl - s0) (by rw [(s_22).1]; exact Nat.le_refl _) (by rw [(s_22).2]; exact Nat.le_refl _) ?_
  have b_23e := congrArg List.length (s_22).1
  have b_23f := (s_22).2
  refine hp_callV_a (v := .int v66) (H1 := H67) (As := [.int v56]) (rest := []) d_Body_nameValue_430 (k_Body_kindAt z65) (ab_mkC s_Body_kindAt (Nat.le_of_ble_eq_true rfl) (Nat.le_of_ble_eq_true rfl) (show (H64.sh.length - c0) + 0 ≤ C from by omega) (show (H64.sl - s0) + 0 ≤ Sl from by omega)) (k5 205 rfl rfl) i_Body_kindAt v_Body_kindAt (by rw [(s_22).1]; exact q_16) (by decide) rfl rfl (Nat.le_of_ble_eq_true rfl) ?_
  have s_24 : Sa H57 H67 := (s_22).tr (m_Body_kindAt z65)
  refine ab_widen (cells' := H57.sh.length - c0) (slots' := H57.sl - s0) (by show (H64.sh.length - c0) + 0 ≤ _; omega) (by show (H64.sl - s0) + 0 ≤ _; omega) ?_
  clear b_23e b_23f
  refine ab_widen (cells' := H67.sh.length - c0) (slots' := H67.sl - s0) (by rw [(s_24).1]; exact Nat.le_refl _) (by rw [(s_24).2]; exact Nat.le_refl _) ?_
  have b_25e := congrArg List.length (s_24).1
  have b_25f := (s_24).2
  refine hp_callS_a (v := .int v69) (H1 := H70) (As := [.int v66]) (rest := []) d_Body_nameValue_433 (k_Body_asValue z68) (ab_mkC s_Body_asValue (Nat.le_of_ble_eq_true rfl) (Nat.le_of_ble_eq_true rfl) (show (H67.sh.length - c0) + 0 ≤ C from by omega) (show (H67.sl - s0) + 0 ≤ Sl from by omega)) (k5 202 rfl rfl) t_Body_asValue rfl (Nat.le_of_ble_eq_true rfl) ?_
  have s_26 : Sa H57 H70 := (s_24).tr (m_Body_asValue z68)
  refine ab_widen (cells' := H57.sh.length - c0) (slots' := H57.sl - s0) (by show (H67.sh.length - c0) + 0 ≤ _; omega) (by show (H67.sl - s0) + 0 ≤ _; omega) ?_
  clear b_25e b_25f
  exact ab_iret d_Body_nameValue_436 rfl (by show _ ≤ C; omega) (by show _ ≤ Sl; omega) (by have hr := Option.some.inj hF; subst hr; exact ⟨rfl, rfl⟩)
def B_Body_nameValue_331 (N : Nat) (p0 : Nat) (l2 : Nat) (l8 : Nat) (H : Hp) : Option ((Ot Int32) × Hp) :=
    ck (H.sh[l8]? = some (2, 0)) <|
    bnd ((H.D l8 2)) fun x126 =>
    ck (H.sh[p0]? = some (6, 0)) <|
    rf (H.P p0 0) fun a128 =>
    ck (H.sh[a128]? = some (1, 0)) <|
    bT (F_Lexer_take N a128 (16 : Int32) H) fun v132 H133 =>
    rf (H133.P p0 1) fun a135 =>
    ck (H133.sh[a135]? = some (4, 0)) <|
    bC (F_Program_add N a135 (33 : Int32) H133) fun v139 H140 =>
    rf (H140.P p0 1) fun a141 =>
    ck (H140.sh[l2]? = some (2, 0)) <|
    bnd ((H140.D l2 2)) fun x144 =>
    ck (H140.sh[a141]? = some (4, 0)) <|
    bC (F_Program_add N a141 x144 H140) fun v147 H148 =>
    rf (H148.P p0 1) fun a149 =>
    ck (H148.sh[a149]? = some (4, 0)) <|
    bC (F_Program_add N a149 (38 : Int32) H148) fun v153 H154 =>
    rf (H154.P p0 1) fun a155 =>
    ck (H154.sh[a155]? = some (4, 0)) <|
    bC (F_Program_add N a155 x126 H154) fun v159 H160 =>
    B_Body_nameValue_402 N p0 x126 H160
set_option maxRecDepth 20000 in
set_option maxHeartbeats 2000000 in
theorem mB_Body_nameValue_331 {N : Nat} {p0 : Nat} {l2 : Nat} {l8 : Nat} {H : Hp} {r : (Ot Int32) × Hp} (hF : B_Body_nameValue_331 N p0 l2 l8 H = some r) : Mo H r.2 := by
  unfold B_Body_nameValue_331 at hF
  have hm := Mo.rf H
  obtain ⟨q161, hG⟩ := ck_s hF; clear hF
  obtain ⟨x162, -, hF⟩ := bnd_g hG; clear hG
  obtain ⟨q163, hG⟩ := ck_s hF; clear hF
  obtain ⟨a164, e165, hF⟩ := rf_s hG; clear hG
  obtain ⟨q166, hG⟩ := ck_s hF; clear hF
  refine bT_c hG (fun x170 H169 z167 er => ?_) (fun v168 H169 z167 hF => ?_)
  · subst er; exact hm.tr (m_Lexer_take z167)
  clear hG
  replace hm : Mo H H169 := hm.tr (m_Lexer_take z167)
  obtain ⟨a171, e172, hG⟩ := rf_s hF; clear hF
  obtain ⟨q173, hF⟩ := ck_s hG; clear hG
  obtain ⟨v175, H176, z174, hG⟩ := bC_s hF; clear hF
  replace hm : Mo H H176 := hm.tr ((m_Program_add z174)).mo
  obtain ⟨a177, e178, hF⟩ := rf_s hG; clear hG
  obtain ⟨q179, hG⟩ := ck_s hF; clear hF
  obtain ⟨x180, -, hF⟩ := bnd_g hG; clear hG
  obtain ⟨q181, hG⟩ := ck_s hF; clear hF
  obtain ⟨v183, H184, z182, hF⟩ := bC_s hG; clear hG
  replace hm : Mo H H184 := hm.tr ((m_Program_add z182)).mo
  obtain ⟨a185, e186, hG⟩ := rf_s hF; clear hF
  obtain ⟨q187, hF⟩ := ck_s hG; clear hG
  obtain ⟨v189, H190, z188, hG⟩ := bC_s hF; clear hF
  replace hm : Mo H H190 := hm.tr ((m_Program_add z188)).mo
  obtain ⟨a191, e192, hF⟩ := rf_s hG; clear hG
  obtain ⟨q193, hG⟩ := ck_s hF; clear hF
  obtain ⟨v195, H196, z194, hF⟩ := bC_s hG; clear hG
  replace hm : Mo H H196 := hm.tr ((m_Program_add z194)).mo
  exact hm.tr (mB_Body_nameValue_402 hF)
set_option maxRecDepth 20000 in
set_option maxHeartbeats 2000000 in
theorem kB_Body_nameValue_331 {N : Nat} {p0 : Nat} {c0 s0 C Sl : Nat} {l2 : Nat} {l8 : Nat} {H : Hp} {r : (Ot Int32) × Hp} (hF : B_Body_nameValue_331 N p0 l2 l8 H = some r) (hc0 : c0 ≤ H.sh.length) (hs0 : s0 ≤ H.sl) (hcc : H.sh.length ≤ c0 + C) (hss : H.sl ≤ s0 + Sl) (hC : r.2.sh.length ≤ c0 + C) (hS : r.2.sl ≤ s0 + Sl) : ab_V y_Body_nameValue { frames := 8, cells := C, slots := Sl, locals := 152 } (po (oI r.1) r.2) C Sl (H.sh.length - c0) (H.sl - s0) 331 [some (.ref p0), none, some (.ref l2), none, none, none, none, none, some (.ref l8)] [] (hpw H) := by
  unfold B_Body_nameValue_331 at hF
  refine ab_aload d_Body_nameValue_331 rfl rfl ?_
  obtain ⟨q125, hG⟩ := ck_s hF; clear hF
  refine hp_getI (f := 2) d_Body_nameValue_333 q125 (by decide) rfl (by decide) (k2 237 rfl rfl) rfl ?_
  refine ab_topi (fun x126 ex126 => ?_)
  replace hG := bnd_s ex126 hG
  refine ab_istore (lv' := [some (.ref p0), none, some (.ref l2), none, none, none, some (.int x126), none, some (.ref l8)]) d_Body_nameValue_336 (by decide) rfl ?_
  refine ab_aload_n d_Body_nameValue_338 rfl rfl rfl ?_
  obtain ⟨q127, hF⟩ := ck_s hG; clear hG
  obtain ⟨a128, e129, hG⟩ := rf_s hF; clear hF
  refine hp_getR (f := 0) d_Body_nameValue_339 q127 (by decide) rfl (by decide) (k1 157 rfl rfl) rfl e129 ?_
  refine ab_bipush (v := 16) d_Body_nameValue_342 (by decide) ?_
  obtain ⟨q130, hF⟩ := ck_s hG; clear hG
  refine bT_c hF (fun x134 H133 z131 er => ?_) (fun v132 H133 z131 hG => ?_)
  · subst er
    have mz : Mo H H133 := (m_Lexer_take z131)
    have ml := mz.len
    have m2 := mz.2
    have hC9 : H133.sh.length ≤ c0 + C := hC
    have hS9 : H133.sl ≤ s0 + Sl := hS
    refine hp_callV_t (x := x134) (H1 := H133) (As := [.int 16]) (rest := []) d_Body_nameValue_344 (k_Lexer_take z131 (C := H133.sh.length - H.sh.length) (Sl := H133.sl - H.sl) (by show H133.sh.length ≤ _; omega) (by show H133.sl ≤ _; omega)) (ab_mkC s_Lexer_take (Nat.le_of_ble_eq_true rfl) (Nat.le_of_ble_eq_true rfl) (show (H.sh.length - c0) + (H133.sh.length - H.sh.length) ≤ C from by omega) (show (H.sl - s0) + (H133.sl - H.sl) ≤ Sl from by omega)) (k5 116 rfl rfl) i_Lexer_take v_Lexer_take q130 (by decide) rfl rfl (Nat.le_of_ble_eq_true rfl) ?_
    exact ab_U_out rfl (by show _ + (H133.sh.length - H.sh.length) ≤ C; omega) (by show _ + (H133.sl - H.sl) ≤ Sl; omega) ⟨rfl, rfl⟩
  clear hF
  have mz_43 : Mo H H133 := (m_Lexer_take z131)
  have b_44l := (mz_43).len
  have b_44s := (mz_43).2
  have b_44c : c0 ≤ H133.sh.length := by omega
  have b_44d : s0 ≤ H133.sl := by omega
  have q_45 := (mz_43).get q125
  have q_46 := (mz_43).get q127
  have q_47 := (mz_43).get q130
  obtain ⟨a135, e136, hF⟩ := rf_s hG; clear hG
  obtain ⟨q137, hG⟩ := ck_s hF; clear hF
  obtain ⟨v139, H140, z138, hF⟩ := bC_s hG; clear hG
  have jH140 : Mo H133 H140 := ((m_Program_add z138)).mo
  obtain ⟨a141, e142, hG⟩ := rf_s hF; clear hF
  obtain ⟨q143, hF⟩ := ck_s hG; clear hG
  obtain ⟨x144, ex144, hG⟩ := bnd_g hF; clear hF
  obtain ⟨q145, hF⟩ := ck_s hG; clear hG
  obtain ⟨v147, H148, z146, hG⟩ := bC_s hF; clear hF
  have jH148 : Mo H140 H148 := ((m_Program_add z146)).mo
  obtain ⟨a149, e150, hF⟩ := rf_s hG; clear hG
  obtain ⟨q151, hG⟩ := ck_s hF; clear hF
  obtain ⟨v153, H154, z152, hF⟩ := bC_s hG; clear hG
  have jH154 : Mo H148 H154 := ((m_Program_add z152)).mo
  obtain ⟨a155, e156, hG⟩ := rf_s hF; clear hF
  obtain ⟨q157, hF⟩ := ck_s hG; clear hG
  obtain ⟨v159, H160, z158, hG⟩ := bC_s hF; clear hF
  have jH160 : Mo H154 H160 := ((m_Program_add z158)).mo
  have fH160 : Mo H160 r.2 := by
    have hm := Mo.rf H160
    exact hm.tr (mB_Body_nameValue_402 hG)
  have fH154 : Mo H154 r.2 := jH160.tr fH160
  have fH148 : Mo H148 r.2 := jH154.tr fH154
  have fH140 : Mo H140 r.2 := jH148.tr fH148
  have fH133 : Mo H133 r.2 := jH140.tr fH140
  have b_44m := (fH133).len
  have b_44n := (fH133).2
  have b_44p : H133.sh.length ≤ c0 + C := by omega
  have b_44q : H133.sl ≤ s0 + Sl := by omega
  refine hp_callV_v (H1 := H133) (As := [.int 16]) (rest := []) d_Body_nameValue_344 (k_Lexer_take z131 (C := H133.sh.length - H.sh.length) (Sl := H133.sl - H.sl) (by show H133.sh.length ≤ _; omega) (by show H133.sl ≤ _; omega)) (ab_mkC s_Lexer_take (Nat.le_of_ble_eq_true rfl) (Nat.le_of_ble_eq_true rfl) (show (H.sh.length - c0) + (H133.sh.length - H.sh.length) ≤ C from by omega) (show (H.sl - s0) + (H133.sl - H.sl) ≤ Sl from by omega)) (k5 116 rfl rfl) i_Lexer_take v_Lexer_take q130 (by decide) rfl rfl (Nat.le_of_ble_eq_true rfl) ?_
  refine ab_widen (cells' := H133.sh.length - c0) (slots' := H133.sl - s0) (by show _ + (H133.sh.length - H.sh.length) ≤ _; omega) (by show _ + (H133.sl - H.sl) ≤ _; omega) ?_
  clear b_44l b_44s b_44m b_44n
  refine ab_aload_n d_Body_nameValue_347 rfl rfl rfl ?_
  refine hp_getR (f := 1) d_Body_nameValue_348 q_46 (by decide) rfl (by decide) (k1 158 rfl rfl) rfl e136 ?_
  refine ab_bipush (v := 33) d_Body_nameValue_351 (by decide) ?_
  refine hp_callV_a (v := .int v139) (H1 := H140) (As := [.int 33]) (rest := []) d_Body_nameValue_353 (k_Program_add z138) (ab_mkC s_Program_add (Nat.le_of_ble_eq_true rfl) (Nat.le_of_ble_eq_true rfl) (show (H133.sh.length - c0) + 0 ≤ C from by omega) (show (H133.sl - s0) + 0 ≤ Sl from by omega)) (k5 117 rfl rfl) i_Program_add v_Program_add q137 (by decide) rfl rfl (Nat.le_of_ble_eq_true rfl) ?_
  have s_53 : Sa H133 H140 := (m_Program_add z138)
  refine ab_widen (cells' := H133.sh.length - c0) (slots' := H133.sl - s0) (by show (H133.sh.length - c0) + 0 ≤ _; omega) (by show (H133.sl - s0) + 0 ≤ _; omega) ?_
  refine ab_pop d_Body_nameValue_356 rfl ?_
  refine ab_aload_n d_Body_nameValue_357 rfl rfl rfl ?_
  refine hp_getR (f := 1) d_Body_nameValue_358 (by rw [(s_53).1]; exact q_46) (by decide) rfl (by decide) (k1 158 rfl rfl) rfl e142 ?_
  refine ab_aload_n d_Body_nameValue_361 rfl rfl rfl ?_
  rw [(s_53).1] at q143
  refine hp_getI (f := 2) d_Body_nameValue_362 (by rw [(s_53).1]; exact q143) (by decide) rfl (by decide) (k2 237 rfl rfl) rfl ?_
  refine ab_topxi ex144 ?_
  rw [(s_53).1] at q145
  refine ab_widen (cells' := H140.sh.length - c0) (slots' := H140.sl - s0) (by rw [(s_53).1]; exact Nat.le_refl _) (by rw [(s_53).2]; exact Nat.le_refl _) ?_
  have b_54e := congrArg List.length (s_53).1
  have b_54f := (s_53).2
  refine hp_callV_a (v := .int v147) (H1 := H148) (As := [.int x144]) (rest := []) d_Body_nameValue_365 (k_Program_add z146) (ab_mkC s_Program_add (Nat.le_of_ble_eq_true rfl) (Nat.le_of_ble_eq_true rfl) (show (H140.sh.length - c0) + 0 ≤ C from by omega) (show (H140.sl - s0) + 0 ≤ Sl from by omega)) (k5 117 rfl rfl) i_Program_add v_Program_add (by rw [(s_53).1]; exact q145) (by decide) rfl rfl (Nat.le_of_ble_eq_true rfl) ?_
  have s_55 : Sa H133 H148 := (s_53).tr (m_Program_add z146)
  refine ab_widen (cells' := H133.sh.length - c0) (slots' := H133.sl - s0) (by show (H140.sh.length - c0) + 0 ≤ _; omega) (by show (H140.sl - s0) + 0 ≤ _; omega) ?_
  clear b_54e b_54f
  refine ab_pop d_Body_nameValue_368 rfl ?_
  refine ab_aload_n d_Body_nameValue_369 rfl rfl rfl ?_
  refine hp_getR (f := 1) d_Body_nameValue_370 (by rw [(s_55).1]; exact q_46) (by decide) rfl (by decide) (k1 158 rfl rfl) rfl e150 ?_
  refine ab_bipush (v := 38) d_Body_nameValue_373 (by decide) ?_
  rw [(s_55).1] at q151
  refine ab_widen (cells' := H148.sh.length - c0) (slots' := H148.sl - s0) (by rw [(s_55).1]; exact Nat.le_refl _) (by rw [(s_55).2]; exact Nat.le_refl _) ?_
  have b_56e := congrArg List.length (s_55).1
  have b_56f := (s_55).2
  refine hp_callV_a (v := .int v153) (H1 := H154) (As := [.int 38]) (rest := []) d_Body_nameValue_375 (k_Program_add z152) (ab_mkC s_Program_add (Nat.le_of_ble_eq_true rfl) (Nat.le_of_ble_eq_true rfl) (show (H148.sh.length - c0) + 0 ≤ C from by omega) (show (H148.sl - s0) + 0 ≤ Sl from by omega)) (k5 117 rfl rfl) i_Program_add v_Program_add (by rw [(s_55).1]; exact q151) (by decide) rfl rfl (Nat.le_of_ble_eq_true rfl) ?_
  have s_57 : Sa H133 H154 := (s_55).tr (m_Program_add z152)
  refine ab_widen (cells' := H133.sh.length - c0) (slots' := H133.sl - s0) (by show (H148.sh.length - c0) + 0 ≤ _; omega) (by show (H148.sl - s0) + 0 ≤ _; omega) ?_
  clear b_56e b_56f
  refine ab_pop d_Body_nameValue_378 rfl ?_
  refine ab_aload_n d_Body_nameValue_379 rfl rfl rfl ?_
  refine hp_getR (f := 1) d_Body_nameValue_380 (by rw [(s_57).1]; exact q_46) (by decide) rfl (by decide) (k1 158 rfl rfl) rfl e156 ?_
  refine ab_iload d_Body_nameValue_383 rfl ?_
  rw [(s_57).1] at q157
  refine ab_widen (cells' := H154.sh.length - c0) (slots' := H154.sl - s0) (by rw [(s_57).1]; exact Nat.le_refl _) (by rw [(s_57).2]; exact Nat.le_refl _) ?_
  have b_58e := congrArg List.length (s_57).1
  have b_58f := (s_57).2
  refine hp_callV_a (v := .int v159) (H1 := H160) (As := [.int x126]) (rest := []) d_Body_nameValue_385 (k_Program_add z158) (ab_mkC s_Program_add (Nat.le_of_ble_eq_true rfl) (Nat.le_of_ble_eq_true rfl) (show (H154.sh.length - c0) + 0 ≤ C from by omega) (show (H154.sl - s0) + 0 ≤ Sl from by omega)) (k5 117 rfl rfl) i_Program_add v_Program_add (by rw [(s_57).1]; exact q157) (by decide) rfl rfl (Nat.le_of_ble_eq_true rfl) ?_
  have s_59 : Sa H133 H160 := (s_57).tr (m_Program_add z158)
  refine ab_widen (cells' := H133.sh.length - c0) (slots' := H133.sl - s0) (by show (H154.sh.length - c0) + 0 ≤ _; omega) (by show (H154.sl - s0) + 0 ≤ _; omega) ?_
  clear b_58e b_58f
  refine ab_pop d_Body_nameValue_388 rfl ?_
  refine ab_goto (tgt := 402) d_Body_nameValue_389 (by decide) ?_
  refine ab_le (lv' := [some (.ref p0), none, none, none, none, none, some (.int x126), none, none]) ⟨rfl, ⟨rfl, trivial⟩⟩ ?_
  refine ab_widen (cells' := H160.sh.length - c0) (slots' := H160.sl - s0) (by rw [(s_59).1]; exact Nat.le_refl _) (by rw [(s_59).2]; exact Nat.le_refl _) ?_
  exact kB_Body_nameValue_402 hG (by rw [(s_59).1]; exact b_44c) (by rw [(s_59).2]; exact b_44d) (by rw [(s_59).1]; exact b_44p) (by rw [(s_59).2]; exact b_44q) hC hS
def B_Body_nameValue_321 (N : Nat) (p0 : Nat) (l2 : Nat) (l7 : Int32) (l8 : Nat) (H : Hp) : Option ((Ot Int32) × Hp) :=
    ck (H.sh[p0]? = some (6, 0)) <|
    rf (H.P p0 0) fun a118 =>
    ck (H.sh[a118]? = some (1, 0)) <|
    bT (F_Lexer_refuse N a118 (5 : Int32) l7 H) fun v122 H123 =>
    B_Body_nameValue_331 N p0 l2 l8 H123
set_option maxRecDepth 20000 in
set_option maxHeartbeats 2000000 in
theorem mB_Body_nameValue_321 {N : Nat} {p0 : Nat} {l2 : Nat} {l7 : Int32} {l8 : Nat} {H : Hp} {r : (Ot Int32) × Hp} (hF : B_Body_nameValue_321 N p0 l2 l7 l8 H = some r) : Mo H r.2 := by
  unfold B_Body_nameValue_321 at hF
  have hm := Mo.rf H
  obtain ⟨q125, hG⟩ := ck_s hF; clear hF
  obtain ⟨a126, e127, hF⟩ := rf_s hG; clear hG
  obtain ⟨q128, hG⟩ := ck_s hF; clear hF
  refine bT_c hG (fun x132 H131 z129 er => ?_) (fun v130 H131 z129 hF => ?_)
  · subst er; exact hm.tr (m_Lexer_refuse z129)
  clear hG
  replace hm : Mo H H131 := hm.tr (m_Lexer_refuse z129)
  exact hm.tr (mB_Body_nameValue_331 hF)
set_option maxRecDepth 20000 in
set_option maxHeartbeats 2000000 in
theorem kB_Body_nameValue_321 {N : Nat} {p0 : Nat} {c0 s0 C Sl : Nat} {l2 : Nat} {l7 : Int32} {l8 : Nat} {H : Hp} {r : (Ot Int32) × Hp} (hF : B_Body_nameValue_321 N p0 l2 l7 l8 H = some r) (hc0 : c0 ≤ H.sh.length) (hs0 : s0 ≤ H.sl) (hcc : H.sh.length ≤ c0 + C) (hss : H.sl ≤ s0 + Sl) (hC : r.2.sh.length ≤ c0 + C) (hS : r.2.sl ≤ s0 + Sl) : ab_V y_Body_nameValue { frames := 8, cells := C, slots := Sl, locals := 152 } (po (oI r.1) r.2) C Sl (H.sh.length - c0) (H.sl - s0) 321 [some (.ref p0), none, some (.ref l2), none, none, none, none, some (.int l7), some (.ref l8)] [] (hpw H) := by
  unfold B_Body_nameValue_321 at hF
  refine ab_aload_n d_Body_nameValue_321 rfl rfl rfl ?_
  obtain ⟨q117, hG⟩ := ck_s hF; clear hF
  obtain ⟨a118, e119, hF⟩ := rf_s hG; clear hG
  refine hp_getR (f := 0) d_Body_nameValue_322 q117 (by decide) rfl (by decide) (k1 157 rfl rfl) rfl e119 ?_
  refine ab_iconst (v := 5) d_Body_nameValue_325 (by decide) ?_
  refine ab_iload d_Body_nameValue_326 rfl ?_
  obtain ⟨q120, hG⟩ := ck_s hF; clear hF
  refine bT_c hG (fun x124 H123 z121 er => ?_) (fun v122 H123 z121 hF => ?_)
  · subst er
    have mz : Mo H H123 := (m_Lexer_refuse z121)
    have ml := mz.len
    have m2 := mz.2
    have hC9 : H123.sh.length ≤ c0 + C := hC
    have hS9 : H123.sl ≤ s0 + Sl := hS
    refine hp_callV_t (x := x124) (H1 := H123) (As := [.int 5, .int l7]) (rest := []) d_Body_nameValue_328 (k_Lexer_refuse z121 (C := H123.sh.length - H.sh.length) (Sl := H123.sl - H.sl) (by show H123.sh.length ≤ _; omega) (by show H123.sl ≤ _; omega)) (ab_mkC s_Lexer_refuse (Nat.le_of_ble_eq_true rfl) (Nat.le_of_ble_eq_true rfl) (show (H.sh.length - c0) + (H123.sh.length - H.sh.length) ≤ C from by omega) (show (H.sl - s0) + (H123.sl - H.sl) ≤ Sl from by omega)) (k5 135 rfl rfl) i_Lexer_refuse v_Lexer_refuse q120 (by decide) rfl rfl (Nat.le_of_ble_eq_true rfl) ?_
    exact ab_U_out rfl (by show _ + (H123.sh.length - H.sh.length) ≤ C; omega) (by show _ + (H123.sl - H.sl) ≤ Sl; omega) ⟨rfl, rfl⟩
  clear hG
  have mz_39 : Mo H H123 := (m_Lexer_refuse z121)
  have b_40l := (mz_39).len
  have b_40s := (mz_39).2
  have b_40c : c0 ≤ H123.sh.length := by omega
  have b_40d : s0 ≤ H123.sl := by omega
  have q_41 := (mz_39).get q117
  have q_42 := (mz_39).get q120
  have fH123 : Mo H123 r.2 := by
    have hm := Mo.rf H123
    exact hm.tr (mB_Body_nameValue_331 hF)
  have b_40m := (fH123).len
  have b_40n := (fH123).2
  have b_40p : H123.sh.length ≤ c0 + C := by omega
  have b_40q : H123.sl ≤ s0 + Sl := by omega
  refine hp_callV_v (H1 := H123) (As := [.int 5, .int l7]) (rest := []) d_Body_nameValue_328 (k_Lexer_refuse z121 (C := H123.sh.length - H.sh.length) (Sl := H123.sl - H.sl) (by show H123.sh.length ≤ _; omega) (by show H123.sl ≤ _; omega)) (ab_mkC s_Lexer_refuse (Nat.le_of_ble_eq_true rfl) (Nat.le_of_ble_eq_true rfl) (show (H.sh.length - c0) + (H123.sh.length - H.sh.length) ≤ C from by omega) (show (H.sl - s0) + (H123.sl - H.sl) ≤ Sl from by omega)) (k5 135 rfl rfl) i_Lexer_refuse v_Lexer_refuse q120 (by decide) rfl rfl (Nat.le_of_ble_eq_true rfl) ?_
  refine ab_widen (cells' := H123.sh.length - c0) (slots' := H123.sl - s0) (by show _ + (H123.sh.length - H.sh.length) ≤ _; omega) (by show _ + (H123.sl - H.sl) ≤ _; omega) ?_
  clear b_40l b_40s b_40m b_40n
  refine ab_le (lv' := [some (.ref p0), none, some (.ref l2), none, none, none, none, none, some (.ref l8)]) ⟨rfl, ⟨rfl, ⟨rfl, trivial⟩⟩⟩ ?_
  exact kB_Body_nameValue_331 hF b_40c b_40d b_40p b_40q hC hS
def B_Body_nameValue_171 (N : Nat) (p0 : Nat) (l2 : Nat) (l3 : Int32) (l5 : Int32) (H : Hp) : Option ((Ot Int32) × Hp) :=
    ck (H.sh[p0]? = some (6, 0)) <|
    rf (H.P p0 0) fun a33 =>
    ck (H.sh[a33]? = some (1, 0)) <|
    bC (F_Lexer_advance N a33 H) fun v37 H38 =>
    if l3 < (0 : Int32) then
    ck (H38.sh[l2]? = some (2, 0)) <|
    bnd ((H38.D l2 2)) fun x41 =>
    if l5 = (0 : Int32) then
    rf (H38.P p0 1) fun a43 =>
    ck (H38.sh[a43]? = some (4, 0)) <|
    bC (F_Program_add N a43 (35 : Int32) H38) fun v47 H48 =>
    B_Body_nameValue_402 N p0 x41 H48
    else
    rf (H38.P p0 0) fun a93 =>
    ck (H38.sh[a93]? = some (1, 0)) <|
    bnd ((H38.D a93 3)) fun x96 =>
    bT (F_Body_knownHere N p0 H38) fun v98 H99 =>
    on v98 fun a101 =>
    ck (H99.sh[a101]? = some (2, 0)) <|
    bnd ((H99.D a101 1)) fun x103 =>
    if x103 = (0 : Int32) then
    rf (H99.P p0 1) fun a105 =>
    ck (H99.sh[a105]? = some (4, 0)) <|
    rf (H99.P a105 12) fun a108 =>
    bnd ((H99.D p0 2)) fun x110 =>
    ar H99 100 a108 fun n111 =>
    ck (inb x110 n111) <|
    bnd ((H99.D a108 (x110).toNatClampNeg)) fun x114 =>
    bnd ((H99.D a101 2)) fun x115 =>
    if ((x114 >>> (x115 &&& 31)) &&& (1 : Int32)) = (0 : Int32) then
    B_Body_nameValue_321 N p0 l2 x96 a101 H99
    else
    B_Body_nameValue_331 N p0 l2 a101 H99
    else
    B_Body_nameValue_321 N p0 l2 x96 a101 H99
    else
    rf (H38.P p0 1) fun a117 =>
    ck (H38.sh[a117]? = some (4, 0)) <|
    rf (H38.P a117 3) fun a120 =>
    ck (H38.sh[l2]? = some (2, 0)) <|
    bnd ((H38.D l2 2)) fun x123 =>
    bT (F_Body_memberHere N p0 a120 x123 H38) fun v125 H126 =>
    rf (H126.P p0 1) fun a128 =>
    ck (H126.sh[a128]? = some (4, 0)) <|
    bC (F_Program_add N a128 (37 : Int32) H126) fun v132 H133 =>
    rf (H133.P p0 1) fun a134 =>
    ck (H133.sh[a134]? = some (4, 0)) <|
    bC (F_Program_add N a134 l3 H133) fun v138 H139 =>
    rf (H139.P p0 1) fun a140 =>
    rf (H139.P p0 1) fun a142 =>
    ck (H139.sh[a142]? = some (4, 0)) <|
    rf (H139.P a142 3) fun a145 =>
    ck (H139.sh[a145]? = some (3, 0)) <|
    rf (H139.P a145 2) fun a148 =>
    bnd ((H139.D l2 2)) fun x150 =>
    ar H139 100 a148 fun n151 =>
    ck (inb x150 n151) <|
    bnd ((H139.D a148 (x150).toNatClampNeg)) fun x154 =>
    ck (H139.sh[a140]? = some (4, 0)) <|
    bC (F_Program_add N a140 (v125 - x154) H139) fun v157 H158 =>
    rf (H158.P p0 1) fun a159 =>
    ck (H158.sh[a159]? = some (4, 0)) <|
    rf (H158.P a159 3) fun a162 =>
    ck (H158.sh[a162]? = some (3, 0)) <|
    rf (H158.P a162 1) fun a165 =>
    ar H158 106 a165 fun n167 =>
    ck (inb v125 n167) <|
    rf (H158.P a165 (v125).toNatClampNeg) fun a170 =>
    ck (H158.sh[a170]? = some (2, 0)) <|
    bnd ((H158.D a170 3)) fun x173 =>
    bC (F_Body_asValue N x173 H158) fun v175 H176 =>
    some (.inl v175, H176)
set_option maxRecDepth 20000 in
set_option maxHeartbeats 2000000 in
theorem mB_Body_nameValue_171 {N : Nat} {p0 : Nat} {l2 : Nat} {l3 : Int32} {l5 : Int32} {H : Hp} {r : (Ot Int32) × Hp} (hF : B_Body_nameValue_171 N p0 l2 l3 l5 H = some r) : Mo H r.2 := by
  unfold B_Body_nameValue_171 at hF
  have hm := Mo.rf H
  obtain ⟨q177, hG⟩ := ck_s hF; clear hF
  obtain ⟨a178, e179, hF⟩ := rf_s hG; clear hG
  obtain ⟨q180, hG⟩ := ck_s hF; clear hF
  obtain ⟨v182, H183, z181, hF⟩ := bC_s hG; clear hG
  replace hm : Mo H H183 := hm.tr ((m_Lexer_advance z181)).mo
  rcases ite_s hF with ⟨q_85, hG⟩ | ⟨q_85, hG⟩
  · clear hF
    obtain ⟨q185, hF⟩ := ck_s hG; clear hG
    obtain ⟨x186, -, hG⟩ := bnd_g hF; clear hF
    rcases ite_s hG with ⟨q_86, hF⟩ | ⟨q_86, hF⟩
    · clear hG
      obtain ⟨a188, e189, hG⟩ := rf_s hF; clear hF
      obtain ⟨q190, hF⟩ := ck_s hG; clear hG
      obtain ⟨v192, H193, z191, hG⟩ := bC_s hF; clear hF
      replace hm : Mo H H193 := hm.tr ((m_Program_add z191)).mo
      exact hm.tr (mB_Body_nameValue_402 hG)
    · clear hG
      obtain ⟨a194, e195, hG⟩ := rf_s hF; clear hF
      obtain ⟨q196, hF⟩ := ck_s hG; clear hG
      obtain ⟨x197, -, hG⟩ := bnd_g hF; clear hF
      refine bT_c hG (fun x201 H200 z198 er => ?_) (fun v199 H200 z198 hF => ?_)
      · subst er; exact hm.tr (m_Body_knownHere z198)
      clear hG
      replace hm : Mo H H200 := hm.tr (m_Body_knownHere z198)
      obtain ⟨a202, ea202, hG⟩ := on_s hF; clear hF
      subst ea202
      obtain ⟨q203, hF⟩ := ck_s hG; clear hG
      obtain ⟨x204, -, hG⟩ := bnd_g hF; clear hF
      rcases ite_s hG with ⟨q_92, hF⟩ | ⟨q_92, hF⟩
      · clear hG
        obtain ⟨a206, e207, hG⟩ := rf_s hF; clear hF
        obtain ⟨q208, hF⟩ := ck_s hG; clear hG
        obtain ⟨a209, e210, hG⟩ := rf_s hF; clear hF
        obtain ⟨x211, -, hF⟩ := bnd_g hG; clear hG
        obtain ⟨n212, q213, hG⟩ := ar_s hF; clear hF
        obtain ⟨q214, hF⟩ := ck_s hG; clear hG
        obtain ⟨x215, -, hG⟩ := bnd_g hF; clear hF
        obtain ⟨x216, -, hF⟩ := bnd_g hG; clear hG
        rcases ite_s hF with ⟨q_93, hG⟩ | ⟨q_93, hG⟩
        · clear hF
          exact hm.tr (mB_Body_nameValue_321 hG)
        · clear hF
          exact hm.tr (mB_Body_nameValue_331 hG)
      · clear hG
        exact hm.tr (mB_Body_nameValue_321 hF)
  · clear hF
    obtain ⟨a218, e219, hF⟩ := rf_s hG; clear hG
    obtain ⟨q220, hG⟩ := ck_s hF; clear hF
    obtain ⟨a221, e222, hF⟩ := rf_s hG; clear hG
    obtain ⟨q223, hG⟩ := ck_s hF; clear hF
    obtain ⟨x224, -, hF⟩ := bnd_g hG; clear hG
    refine bT_c hF (fun x228 H227 z225 er => ?_) (fun v226 H227 z225 hG => ?_)
    · subst er; exact hm.tr (m_Body_memberHere z225)
    clear hF
    replace hm : Mo H H227 := hm.tr (m_Body_memberHere z225)
    obtain ⟨a229, e230, hF⟩ := rf_s hG; clear hG
    obtain ⟨q231, hG⟩ := ck_s hF; clear hF
    obtain ⟨v233, H234, z232, hF⟩ := bC_s hG; clear hG
    replace hm : Mo H H234 := hm.tr ((m_Program_add z232)).mo
    obtain ⟨a235, e236, hG⟩ := rf_s hF; clear hF
    obtain ⟨q237, hF⟩ := ck_s hG; clear hG
    obtain ⟨v239, H240, z238, hG⟩ := bC_s hF; clear hF
    replace hm : Mo H H240 := hm.tr ((m_Program_add z238)).mo
    obtain ⟨a241, e242, hF⟩ := rf_s hG; clear hG
    obtain ⟨a243, e244, hG⟩ := rf_s hF; clear hF
    obtain ⟨q245, hF⟩ := ck_s hG; clear hG
    obtain ⟨a246, e247, hG⟩ := rf_s hF; clear hF
    obtain ⟨q248, hF⟩ := ck_s hG; clear hG
    obtain ⟨a249, e250, hG⟩ := rf_s hF; clear hF
    obtain ⟨x251, -, hF⟩ := bnd_g hG; clear hG
    obtain ⟨n252, q253, hG⟩ := ar_s hF; clear hF
    obtain ⟨q254, hF⟩ := ck_s hG; clear hG
    obtain ⟨x255, -, hG⟩ := bnd_g hF; clear hF
    obtain ⟨q256, hF⟩ := ck_s hG; clear hG
    obtain ⟨v258, H259, z257, hG⟩ := bC_s hF; clear hF
    replace hm : Mo H H259 := hm.tr ((m_Program_add z257)).mo
    obtain ⟨a260, e261, hF⟩ := rf_s hG; clear hG
    obtain ⟨q262, hG⟩ := ck_s hF; clear hF
    obtain ⟨a263, e264, hF⟩ := rf_s hG; clear hG
    obtain ⟨q265, hG⟩ := ck_s hF; clear hF
    obtain ⟨a266, e267, hF⟩ := rf_s hG; clear hG
    obtain ⟨n268, q269, hG⟩ := ar_s hF; clear hF
    obtain ⟨q270, hF⟩ := ck_s hG; clear hG
    obtain ⟨a271, e272, hG⟩ := rf_s hF; clear hF
    obtain ⟨q273, hF⟩ := ck_s hG; clear hG
    obtain ⟨x274, -, hG⟩ := bnd_g hF; clear hF
    obtain ⟨v276, H277, z275, hF⟩ := bC_s hG; clear hG
    replace hm : Mo H H277 := hm.tr ((m_Body_asValue z275)).mo
    have hr := Option.some.inj hF; subst hr
    exact hm
set_option maxRecDepth 20000 in
set_option maxHeartbeats 2000000 in
theorem kB_Body_nameValue_171 {N : Nat} {p0 : Nat} {c0 s0 C Sl : Nat} {l2 : Nat} {l3 : Int32} {l5 : Int32} {H : Hp} {r : (Ot Int32) × Hp} (hF : B_Body_nameValue_171 N p0 l2 l3 l5 H = some r) (hc0 : c0 ≤ H.sh.length) (hs0 : s0 ≤ H.sl) (hcc : H.sh.length ≤ c0 + C) (hss : H.sl ≤ s0 + Sl) (hC : r.2.sh.length ≤ c0 + C) (hS : r.2.sl ≤ s0 + Sl) : ab_V y_Body_nameValue { frames := 8, cells := C, slots := Sl, locals := 152 } (po (oI r.1) r.2) C Sl (H.sh.length - c0) (H.sl - s0) 171 [some (.ref p0), none, some (.ref l2), some (.int l3), none, some (.int l5), none, none, none] [] (hpw H) := by
  unfold B_Body_nameValue_171 at hF
  refine ab_aload_n d_Body_nameValue_171 rfl rfl rfl ?_
  obtain ⟨q32, hG⟩ := ck_s hF; clear hF
  obtain ⟨a33, e34, hF⟩ := rf_s hG; clear hG
  refine hp_getR (f := 0) d_Body_nameValue_172 q32 (by decide) rfl (by decide) (k1 157 rfl rfl) rfl e34 ?_
  obtain ⟨q35, hG⟩ := ck_s hF; clear hF
  obtain ⟨v37, H38, z36, hF⟩ := bC_s hG; clear hG
  refine hp_callV_v (H1 := H38) (As := []) (rest := []) d_Body_nameValue_175 (k_Lexer_advance z36) (ab_mkC s_Lexer_advance (Nat.le_of_ble_eq_true rfl) (Nat.le_of_ble_eq_true rfl) (show (H.sh.length - c0) + 0 ≤ C from by omega) (show (H.sl - s0) + 0 ≤ Sl from by omega)) (k5 129 rfl rfl) i_Lexer_advance v_Lexer_advance q35 (by decide) rfl rfl (Nat.le_of_ble_eq_true rfl) ?_
  have s_11 : Sa H H38 := (m_Lexer_advance z36)
  refine ab_widen (cells' := H.sh.length - c0) (slots' := H.sl - s0) (by show (H.sh.length - c0) + 0 ≤ _; omega) (by show (H.sl - s0) + 0 ≤ _; omega) ?_
  refine ab_iload_n d_Body_nameValue_178 rfl rfl ?_
  refine ab_if_lt (tgt := 264) d_Body_nameValue_179 (by decide) (fun q39 => ?_) (fun q39 => ?_)
  · rw [if_pos q39] at hF
    refine ab_aload_n d_Body_nameValue_264 rfl rfl rfl ?_
    obtain ⟨q40, hG⟩ := ck_s hF; clear hF
    rw [(s_11).1] at q40
    refine hp_getI (f := 2) d_Body_nameValue_265 (by rw [(s_11).1]; exact q40) (by decide) rfl (by decide) (k2 237 rfl rfl) rfl ?_
    refine ab_topi (fun x41 ex41 => ?_)
    replace hG := bnd_s ex41 hG
    refine ab_istore (lv' := [some (.ref p0), none, some (.ref l2), some (.int l3), none, some (.int l5), some (.int x41), none, none]) d_Body_nameValue_268 (by decide) rfl ?_
    refine ab_iload d_Body_nameValue_270 rfl ?_
    refine ab_if_eq (tgt := 392) d_Body_nameValue_272 (by decide) (fun q42 => ?_) (fun q42 => ?_)
    · rw [if_pos q42] at hG
      refine ab_aload_n d_Body_nameValue_392 rfl rfl rfl ?_
      obtain ⟨a43, e44, hF⟩ := rf_s hG; clear hG
      refine hp_getR (f := 1) d_Body_nameValue_393 (by rw [(s_11).1]; exact q32) (by decide) rfl (by decide) (k1 158 rfl rfl) rfl e44 ?_
      refine ab_bipush (v := 35) d_Body_nameValue_396 (by decide) ?_
      obtain ⟨q45, hG⟩ := ck_s hF; clear hF
      rw [(s_11).1] at q45
      obtain ⟨v47, H48, z46, hF⟩ := bC_s hG; clear hG
      refine ab_widen (cells' := H38.sh.length - c0) (slots' := H38.sl - s0) (by rw [(s_11).1]; exact Nat.le_refl _) (by rw [(s_11).2]; exact Nat.le_refl _) ?_
      have b_12e := congrArg List.length (s_11).1
      have b_12f := (s_11).2
      refine hp_callV_a (v := .int v47) (H1 := H48) (As := [.int 35]) (rest := []) d_Body_nameValue_398 (k_Program_add z46) (ab_mkC s_Program_add (Nat.le_of_ble_eq_true rfl) (Nat.le_of_ble_eq_true rfl) (show (H38.sh.length - c0) + 0 ≤ C from by omega) (show (H38.sl - s0) + 0 ≤ Sl from by omega)) (k5 117 rfl rfl) i_Program_add v_Program_add (by rw [(s_11).1]; exact q45) (by decide) rfl rfl (Nat.le_of_ble_eq_true rfl) ?_
      have s_13 : Sa H H48 := (s_11).tr (m_Program_add z46)
      refine ab_widen (cells' := H.sh.length - c0) (slots' := H.sl - s0) (by show (H38.sh.length - c0) + 0 ≤ _; omega) (by show (H38.sl - s0) + 0 ≤ _; omega) ?_
      clear b_12e b_12f
      refine ab_pop d_Body_nameValue_401 rfl ?_
      refine ab_le (lv' := [some (.ref p0), none, none, none, none, none, some (.int x41), none, none]) ⟨rfl, ⟨rfl, trivial⟩⟩ ?_
      refine ab_widen (cells' := H48.sh.length - c0) (slots' := H48.sl - s0) (by rw [(s_13).1]; exact Nat.le_refl _) (by rw [(s_13).2]; exact Nat.le_refl _) ?_
      exact kB_Body_nameValue_402 hF (by rw [(s_13).1]; exact hc0) (by rw [(s_13).2]; exact hs0) (by rw [(s_13).1]; exact hcc) (by rw [(s_13).2]; exact hss) hC hS
    · rw [if_neg q42] at hG
      refine ab_aload_n d_Body_nameValue_275 rfl rfl rfl ?_
      obtain ⟨a93, e94, hF⟩ := rf_s hG; clear hG
      refine hp_getR (f := 0) d_Body_nameValue_276 (by rw [(s_11).1]; exact q32) (by decide) rfl (by decide) (k1 157 rfl rfl) rfl e94 ?_
      obtain ⟨q95, hG⟩ := ck_s hF; clear hF
      rw [(s_11).1] at q95
      refine hp_getI (f := 3) d_Body_nameValue_279 (by rw [(s_11).1]; exact q95) (by decide) rfl (by decide) (k1 103 rfl rfl) rfl ?_
      refine ab_topi (fun x96 ex96 => ?_)
      replace hG := bnd_s ex96 hG
      refine ab_istore (lv' := [some (.ref p0), none, some (.ref l2), some (.int l3), none, some (.int l5), some (.int x41), some (.int x96), none]) d_Body_nameValue_282 (by decide) rfl ?_
      refine ab_aload_n d_Body_nameValue_284 rfl rfl rfl ?_
      refine bT_c hG (fun x100 H99 z97 er => ?_) (fun v98 H99 z97 hF => ?_)
      · subst er
        refine ab_widen (cells' := H38.sh.length - c0) (slots' := H38.sl - s0) (by rw [(s_11).1]; exact Nat.le_refl _) (by rw [(s_11).2]; exact Nat.le_refl _) ?_
        have mz : Mo H38 H99 := (m_Body_knownHere z97)
        have ml := mz.len
        have m2 := mz.2
        have be := congrArg List.length (s_11).1
        have bfx := (s_11).2
        have hC9 : H99.sh.length ≤ c0 + C := hC
        have hS9 : H99.sl ≤ s0 + Sl := hS
        refine hp_callV_t (x := x100) (H1 := H99) (As := []) (rest := []) d_Body_nameValue_285 (k_Body_knownHere z97 (C := H99.sh.length - H38.sh.length) (Sl := H99.sl - H38.sl) (by show H99.sh.length ≤ _; omega) (by show H99.sl ≤ _; omega)) (ab_mkC s_Body_knownHere (Nat.le_of_ble_eq_true rfl) (Nat.le_of_ble_eq_true rfl) (show (H38.sh.length - c0) + (H99.sh.length - H38.sh.length) ≤ C from by omega) (show (H38.sl - s0) + (H99.sl - H38.sl) ≤ Sl from by omega)) (k5 181 rfl rfl) i_Body_knownHere v_Body_knownHere (by rw [(s_11).1]; exact q32) (by decide) rfl rfl (Nat.le_of_ble_eq_true rfl) ?_
        exact ab_U_out rfl (by show _ + (H99.sh.length - H38.sh.length) ≤ C; omega) (by show _ + (H99.sl - H38.sl) ≤ Sl; omega) ⟨rfl, rfl⟩
      clear hG
      refine ab_widen (cells' := H38.sh.length - c0) (slots' := H38.sl - s0) (by rw [(s_11).1]; exact Nat.le_refl _) (by rw [(s_11).2]; exact Nat.le_refl _) ?_
      have mz_30 : Mo H38 H99 := (m_Body_knownHere z97)
      have b_31l := (mz_30).len
      have b_31s := (mz_30).2
      have b_31e := congrArg List.length (s_11).1
      have b_31f := (s_11).2
      have b_31c : c0 ≤ H99.sh.length := by omega
      have b_31d : s0 ≤ H99.sl := by omega
      have q_32 := (mz_30).get (by rw [(s_11).1]; exact q32)
      have q_33 := (mz_30).get (by rw [(s_11).1]; exact q35)
      have q_34 := (mz_30).get (by rw [(s_11).1]; exact q40)
      have q_35 := (mz_30).get (by rw [(s_11).1]; exact q95)
      have mf_36 : Mo H99 r.2 := by
        have hm := Mo.rf H99
        obtain ⟨a101, ea101, hG⟩ := on_s hF; clear hF
        subst ea101
        obtain ⟨q102, hF⟩ := ck_s hG; clear hG
        obtain ⟨x103, -, hG⟩ := bnd_g hF; clear hF
        rcases ite_s hG with ⟨q_37, hF⟩ | ⟨q_37, hF⟩
        · clear hG
          obtain ⟨a105, e106, hG⟩ := rf_s hF; clear hF
          obtain ⟨q107, hF⟩ := ck_s hG; clear hG
          obtain ⟨a108, e109, hG⟩ := rf_s hF; clear hF
          obtain ⟨x110, -, hF⟩ := bnd_g hG; clear hG
          obtain ⟨n111, q112, hG⟩ := ar_s hF; clear hF
          obtain ⟨q113, hF⟩ := ck_s hG; clear hG
          obtain ⟨x114, -, hG⟩ := bnd_g hF; clear hF
          obtain ⟨x115, -, hF⟩ := bnd_g hG; clear hG
          rcases ite_s hF with ⟨q_38, hG⟩ | ⟨q_38, hG⟩
          · clear hF
            exact hm.tr (mB_Body_nameValue_321 hG)
          · clear hF
            exact hm.tr (mB_Body_nameValue_331 hG)
        · clear hG
          exact hm.tr (mB_Body_nameValue_321 hF)
      have b_31m := (mf_36).len
      have b_31n := (mf_36).2
      have b_31p : H99.sh.length ≤ c0 + C := by omega
      have b_31q : H99.sl ≤ s0 + Sl := by omega
      refine hp_callV_a (v := ab_rf v98) (H1 := H99) (As := []) (rest := []) d_Body_nameValue_285 (k_Body_knownHere z97 (C := H99.sh.length - H38.sh.length) (Sl := H99.sl - H38.sl) (by show H99.sh.length ≤ _; omega) (by show H99.sl ≤ _; omega)) (ab_mkC s_Body_knownHere (Nat.le_of_ble_eq_true rfl) (Nat.le_of_ble_eq_true rfl) (show (H38.sh.length - c0) + (H99.sh.length - H38.sh.length) ≤ C from by omega) (show (H38.sl - s0) + (H99.sl - H38.sl) ≤ Sl from by omega)) (k5 181 rfl rfl) i_Body_knownHere v_Body_knownHere (by rw [(s_11).1]; exact q32) (by decide) rfl rfl (Nat.le_of_ble_eq_true rfl) ?_
      refine ab_widen (cells' := H99.sh.length - c0) (slots' := H99.sl - s0) (by show _ + (H99.sh.length - H38.sh.length) ≤ _; omega) (by show _ + (H99.sl - H38.sl) ≤ _; omega) ?_
      clear b_31l b_31s b_31m b_31n b_31e b_31f
      obtain ⟨a101, ea101, hG⟩ := on_s hF; clear hF
      subst ea101
      refine ab_astore (lv' := [some (.ref p0), none, some (.ref l2), some (.int l3), none, some (.int l5), some (.int x41), some (.int x96), some (.ref a101)]) d_Body_nameValue_288 (by decide) rfl rfl ?_
      refine ab_aload d_Body_nameValue_290 rfl rfl ?_
      obtain ⟨q102, hF⟩ := ck_s hG; clear hG
      refine hp_getI (f := 1) d_Body_nameValue_292 q102 (by decide) rfl (by decide) (k2 234 rfl rfl) rfl ?_
      refine ab_topi (fun x103 ex103 => ?_)
      replace hF := bnd_s ex103 hF
      refine ab_if_ne (tgt := 321) d_Body_nameValue_295 (by decide) (fun q104 => ?_) (fun q104 => ?_)
      · rw [if_neg q104] at hF
        refine ab_le (lv' := [some (.ref p0), none, some (.ref l2), none, none, none, none, some (.int x96), some (.ref a101)]) ⟨rfl, ⟨rfl, ⟨rfl, ⟨rfl, trivial⟩⟩⟩⟩ ?_
        exact kB_Body_nameValue_321 hF b_31c b_31d b_31p b_31q hC hS
      · rw [if_pos q104] at hF
        refine ab_aload_n d_Body_nameValue_298 rfl rfl rfl ?_
        obtain ⟨a105, e106, hG⟩ := rf_s hF; clear hF
        refine hp_getR (f := 1) d_Body_nameValue_299 q_32 (by decide) rfl (by decide) (k1 158 rfl rfl) rfl e106 ?_
        obtain ⟨q107, hF⟩ := ck_s hG; clear hG
        obtain ⟨a108, e109, hG⟩ := rf_s hF; clear hF
        refine hp_getR (f := 12) d_Body_nameValue_302 q107 (by decide) rfl (by decide) (k3 99 rfl rfl) rfl e109 ?_
        refine ab_aload_n d_Body_nameValue_305 rfl rfl rfl ?_
        refine hp_getI (f := 2) d_Body_nameValue_306 q_32 (by decide) rfl (by decide) (k1 159 rfl rfl) rfl ?_
        refine ab_topi (fun x110 ex110 => ?_)
        replace hG := bnd_s ex110 hG
        obtain ⟨n111, q112, hF⟩ := ar_s hG; clear hG
        obtain ⟨q113, hG⟩ := ck_s hF; clear hF
        refine hp_iald d_Body_nameValue_309 tI q112 q113 ?_
        refine ab_topi (fun x114 ex114 => ?_)
        replace hG := bnd_s ex114 hG
        refine ab_aload d_Body_nameValue_310 rfl rfl ?_
        refine hp_getI (f := 2) d_Body_nameValue_312 q102 (by decide) rfl (by decide) (k2 237 rfl rfl) rfl ?_
        refine ab_topi (fun x115 ex115 => ?_)
        replace hG := bnd_s ex115 hG
        refine ab_ishr d_Body_nameValue_315 ?_
        refine ab_iconst (v := 1) d_Body_nameValue_316 (by decide) ?_
        refine ab_iand d_Body_nameValue_317 ?_
        refine ab_if_ne (tgt := 331) d_Body_nameValue_318 (by decide) (fun q116 => ?_) (fun q116 => ?_)
        · rw [if_neg q116] at hG
          refine ab_le (lv' := [some (.ref p0), none, some (.ref l2), none, none, none, none, none, some (.ref a101)]) ⟨rfl, ⟨rfl, ⟨rfl, trivial⟩⟩⟩ ?_
          exact kB_Body_nameValue_331 hG b_31c b_31d b_31p b_31q hC hS
        · rw [if_pos q116] at hG
          refine ab_le (lv' := [some (.ref p0), none, some (.ref l2), none, none, none, none, some (.int x96), some (.ref a101)]) ⟨rfl, ⟨rfl, ⟨rfl, ⟨rfl, trivial⟩⟩⟩⟩ ?_
          exact kB_Body_nameValue_321 hG b_31c b_31d b_31p b_31q hC hS
  · rw [if_neg q39] at hF
    refine ab_aload_n d_Body_nameValue_182 rfl rfl rfl ?_
    refine ab_aload_n d_Body_nameValue_183 rfl rfl rfl ?_
    obtain ⟨a117, e118, hG⟩ := rf_s hF; clear hF
    refine hp_getR (f := 1) d_Body_nameValue_184 (by rw [(s_11).1]; exact q32) (by decide) rfl (by decide) (k1 158 rfl rfl) rfl e118 ?_
    obtain ⟨q119, hF⟩ := ck_s hG; clear hG
    rw [(s_11).1] at q119
    obtain ⟨a120, e121, hG⟩ := rf_s hF; clear hF
    refine hp_getR (f := 3) d_Body_nameValue_187 (by rw [(s_11).1]; exact q119) (by decide) rfl (by decide) (k3 68 rfl rfl) rfl e121 ?_
    refine ab_aload_n d_Body_nameValue_190 rfl rfl rfl ?_
    obtain ⟨q122, hF⟩ := ck_s hG; clear hG
    rw [(s_11).1] at q122
    refine hp_getI (f := 2) d_Body_nameValue_191 (by rw [(s_11).1]; exact q122) (by decide) rfl (by decide) (k2 237 rfl rfl) rfl ?_
    refine ab_topi (fun x123 ex123 => ?_)
    replace hF := bnd_s ex123 hF
    refine bT_c hF (fun x127 H126 z124 er => ?_) (fun v125 H126 z124 hG => ?_)
    · subst er
      refine ab_widen (cells' := H38.sh.length - c0) (slots' := H38.sl - s0) (by rw [(s_11).1]; exact Nat.le_refl _) (by rw [(s_11).2]; exact Nat.le_refl _) ?_
      have mz : Mo H38 H126 := (m_Body_memberHere z124)
      have ml := mz.len
      have m2 := mz.2
      have be := congrArg List.length (s_11).1
      have bfx := (s_11).2
      have hC9 : H126.sh.length ≤ c0 + C := hC
      have hS9 : H126.sl ≤ s0 + Sl := hS
      refine hp_callV_t (x := x127) (H1 := H126) (As := [.ref a120, .int x123]) (rest := []) d_Body_nameValue_194 (k_Body_memberHere z124 (C := H126.sh.length - H38.sh.length) (Sl := H126.sl - H38.sl) (by show H126.sh.length ≤ _; omega) (by show H126.sl ≤ _; omega)) (ab_mkC s_Body_memberHere (Nat.le_of_ble_eq_true rfl) (Nat.le_of_ble_eq_true rfl) (show (H38.sh.length - c0) + (H126.sh.length - H38.sh.length) ≤ C from by omega) (show (H38.sl - s0) + (H126.sl - H38.sl) ≤ Sl from by omega)) (k5 197 rfl rfl) i_Body_memberHere v_Body_memberHere (by rw [(s_11).1]; exact q32) (by decide) rfl rfl (Nat.le_of_ble_eq_true rfl) ?_
      exact ab_U_out rfl (by show _ + (H126.sh.length - H38.sh.length) ≤ C; omega) (by show _ + (H126.sl - H38.sl) ≤ Sl; omega) ⟨rfl, rfl⟩
    clear hF
    refine ab_widen (cells' := H38.sh.length - c0) (slots' := H38.sl - s0) (by rw [(s_11).1]; exact Nat.le_refl _) (by rw [(s_11).2]; exact Nat.le_refl _) ?_
    have mz_67 : Mo H38 H126 := (m_Body_memberHere z124)
    have b_68l := (mz_67).len
    have b_68s := (mz_67).2
    have b_68e := congrArg List.length (s_11).1
    have b_68f := (s_11).2
    have b_68c : c0 ≤ H126.sh.length := by omega
    have b_68d : s0 ≤ H126.sl := by omega
    have q_69 := (mz_67).get (by rw [(s_11).1]; exact q32)
    have q_70 := (mz_67).get (by rw [(s_11).1]; exact q35)
    have q_71 := (mz_67).get (by rw [(s_11).1]; exact q119)
    have q_72 := (mz_67).get (by rw [(s_11).1]; exact q122)
    obtain ⟨a128, e129, hF⟩ := rf_s hG; clear hG
    obtain ⟨q130, hG⟩ := ck_s hF; clear hF
    obtain ⟨v132, H133, z131, hF⟩ := bC_s hG; clear hG
    have jH133 : Mo H126 H133 := ((m_Program_add z131)).mo
    obtain ⟨a134, e135, hG⟩ := rf_s hF; clear hF
    obtain ⟨q136, hF⟩ := ck_s hG; clear hG
    obtain ⟨v138, H139, z137, hG⟩ := bC_s hF; clear hF
    have jH139 : Mo H133 H139 := ((m_Program_add z137)).mo
    obtain ⟨a140, e141, hF⟩ := rf_s hG; clear hG
    obtain ⟨a142, e143, hG⟩ := rf_s hF; clear hF
    obtain ⟨q144, hF⟩ := ck_s hG; clear hG
    obtain ⟨a145, e146, hG⟩ := rf_s hF; clear hF
    obtain ⟨q147, hF⟩ := ck_s hG; clear hG
    obtain ⟨a148, e149, hG⟩ := rf_s hF; clear hF
    obtain ⟨x150, ex150, hF⟩ := bnd_g hG; clear hG
    obtain ⟨n151, q152, hG⟩ := ar_s hF; clear hF
    obtain ⟨q153, hF⟩ := ck_s hG; clear hG
    obtain ⟨x154, ex154, hG⟩ := bnd_g hF; clear hF
    obtain ⟨q155, hF⟩ := ck_s hG; clear hG
    obtain ⟨v157, H158, z156, hG⟩ := bC_s hF; clear hF
    have jH158 : Mo H139 H158 := ((m_Program_add z156)).mo
    obtain ⟨a159, e160, hF⟩ := rf_s hG; clear hG
    obtain ⟨q161, hG⟩ := ck_s hF; clear hF
    obtain ⟨a162, e163, hF⟩ := rf_s hG; clear hG
    obtain ⟨q164, hG⟩ := ck_s hF; clear hF
    obtain ⟨a165, e166, hF⟩ := rf_s hG; clear hG
    obtain ⟨n167, q168, hG⟩ := ar_s hF; clear hF
    obtain ⟨q169, hF⟩ := ck_s hG; clear hG
    obtain ⟨a170, e171, hG⟩ := rf_s hF; clear hF
    obtain ⟨q172, hF⟩ := ck_s hG; clear hG
    obtain ⟨x173, ex173, hG⟩ := bnd_g hF; clear hF
    obtain ⟨v175, H176, z174, hF⟩ := bC_s hG; clear hG
    have jH176 : Mo H158 H176 := ((m_Body_asValue z174)).mo
    have fH176 : Mo H176 r.2 := by
      have hm := Mo.rf H176
      have hr := Option.some.inj hF; subst hr
      exact hm
    have fH158 : Mo H158 r.2 := jH176.tr fH176
    have fH139 : Mo H139 r.2 := jH158.tr fH158
    have fH133 : Mo H133 r.2 := jH139.tr fH139
    have fH126 : Mo H126 r.2 := jH133.tr fH133
    have b_68m := (fH126).len
    have b_68n := (fH126).2
    have b_68p : H126.sh.length ≤ c0 + C := by omega
    have b_68q : H126.sl ≤ s0 + Sl := by omega
    refine hp_callV_a (v := .int v125) (H1 := H126) (As := [.ref a120, .int x123]) (rest := []) d_Body_nameValue_194 (k_Body_memberHere z124 (C := H126.sh.length - H38.sh.length) (Sl := H126.sl - H38.sl) (by show H126.sh.length ≤ _; omega) (by show H126.sl ≤ _; omega)) (ab_mkC s_Body_memberHere (Nat.le_of_ble_eq_true rfl) (Nat.le_of_ble_eq_true rfl) (show (H38.sh.length - c0) + (H126.sh.length - H38.sh.length) ≤ C from by omega) (show (H38.sl - s0) + (H126.sl - H38.sl) ≤ Sl from by omega)) (k5 197 rfl rfl) i_Body_memberHere v_Body_memberHere (by rw [(s_11).1]; exact q32) (by decide) rfl rfl (Nat.le_of_ble_eq_true rfl) ?_
    refine ab_widen (cells' := H126.sh.length - c0) (slots' := H126.sl - s0) (by show _ + (H126.sh.length - H38.sh.length) ≤ _; omega) (by show _ + (H126.sl - H38.sl) ≤ _; omega) ?_
    clear b_68l b_68s b_68m b_68n b_68e b_68f
    refine ab_istore (lv' := [some (.ref p0), none, some (.ref l2), some (.int l3), none, some (.int l5), some (.int v125), none, none]) d_Body_nameValue_197 (by decide) rfl ?_
    refine ab_aload_n d_Body_nameValue_199 rfl rfl rfl ?_
    refine hp_getR (f := 1) d_Body_nameValue_200 q_69 (by decide) rfl (by decide) (k1 158 rfl rfl) rfl e129 ?_
    refine ab_bipush (v := 37) d_Body_nameValue_203 (by decide) ?_
    refine hp_callV_a (v := .int v132) (H1 := H133) (As := [.int 37]) (rest := []) d_Body_nameValue_205 (k_Program_add z131) (ab_mkC s_Program_add (Nat.le_of_ble_eq_true rfl) (Nat.le_of_ble_eq_true rfl) (show (H126.sh.length - c0) + 0 ≤ C from by omega) (show (H126.sl - s0) + 0 ≤ Sl from by omega)) (k5 117 rfl rfl) i_Program_add v_Program_add q130 (by decide) rfl rfl (Nat.le_of_ble_eq_true rfl) ?_
    have s_78 : Sa H126 H133 := (m_Program_add z131)
    refine ab_widen (cells' := H126.sh.length - c0) (slots' := H126.sl - s0) (by show (H126.sh.length - c0) + 0 ≤ _; omega) (by show (H126.sl - s0) + 0 ≤ _; omega) ?_
    refine ab_pop d_Body_nameValue_208 rfl ?_
    refine ab_aload_n d_Body_nameValue_209 rfl rfl rfl ?_
    refine hp_getR (f := 1) d_Body_nameValue_210 (by rw [(s_78).1]; exact q_69) (by decide) rfl (by decide) (k1 158 rfl rfl) rfl e135 ?_
    refine ab_iload_n d_Body_nameValue_213 rfl rfl ?_
    rw [(s_78).1] at q136
    refine ab_widen (cells' := H133.sh.length - c0) (slots' := H133.sl - s0) (by rw [(s_78).1]; exact Nat.le_refl _) (by rw [(s_78).2]; exact Nat.le_refl _) ?_
    have b_79e := congrArg List.length (s_78).1
    have b_79f := (s_78).2
    refine hp_callV_a (v := .int v138) (H1 := H139) (As := [.int l3]) (rest := []) d_Body_nameValue_214 (k_Program_add z137) (ab_mkC s_Program_add (Nat.le_of_ble_eq_true rfl) (Nat.le_of_ble_eq_true rfl) (show (H133.sh.length - c0) + 0 ≤ C from by omega) (show (H133.sl - s0) + 0 ≤ Sl from by omega)) (k5 117 rfl rfl) i_Program_add v_Program_add (by rw [(s_78).1]; exact q136) (by decide) rfl rfl (Nat.le_of_ble_eq_true rfl) ?_
    have s_80 : Sa H126 H139 := (s_78).tr (m_Program_add z137)
    refine ab_widen (cells' := H126.sh.length - c0) (slots' := H126.sl - s0) (by show (H133.sh.length - c0) + 0 ≤ _; omega) (by show (H133.sl - s0) + 0 ≤ _; omega) ?_
    clear b_79e b_79f
    refine ab_pop d_Body_nameValue_217 rfl ?_
    refine ab_aload_n d_Body_nameValue_218 rfl rfl rfl ?_
    refine hp_getR (f := 1) d_Body_nameValue_219 (by rw [(s_80).1]; exact q_69) (by decide) rfl (by decide) (k1 158 rfl rfl) rfl e141 ?_
    refine ab_iload d_Body_nameValue_222 rfl ?_
    refine ab_aload_n d_Body_nameValue_224 rfl rfl rfl ?_
    refine hp_getR (f := 1) d_Body_nameValue_225 (by rw [(s_80).1]; exact q_69) (by decide) rfl (by decide) (k1 158 rfl rfl) rfl e143 ?_
    rw [(s_80).1] at q144
    refine hp_getR (f := 3) d_Body_nameValue_228 (by rw [(s_80).1]; exact q144) (by decide) rfl (by decide) (k3 68 rfl rfl) rfl e146 ?_
    rw [(s_80).1] at q147
    refine hp_getR (f := 2) d_Body_nameValue_231 (by rw [(s_80).1]; exact q147) (by decide) rfl (by decide) (k3 36 rfl rfl) rfl e149 ?_
    refine ab_aload_n d_Body_nameValue_234 rfl rfl rfl ?_
    refine hp_getI (f := 2) d_Body_nameValue_235 (by rw [(s_80).1]; exact q_72) (by decide) rfl (by decide) (k2 237 rfl rfl) rfl ?_
    refine ab_topxi ex150 ?_
    rw [(s_80).1] at q152
    refine hp_iald d_Body_nameValue_238 tI (by rw [(s_80).1]; exact q152) q153 ?_
    refine ab_topxi ex154 ?_
    refine ab_isub d_Body_nameValue_239 ?_
    rw [(s_80).1] at q155
    refine ab_widen (cells' := H139.sh.length - c0) (slots' := H139.sl - s0) (by rw [(s_80).1]; exact Nat.le_refl _) (by rw [(s_80).2]; exact Nat.le_refl _) ?_
    have b_81e := congrArg List.length (s_80).1
    have b_81f := (s_80).2
    refine hp_callV_a (v := .int v157) (H1 := H158) (As := [.int (v125 - x154)]) (rest := []) d_Body_nameValue_240 (k_Program_add z156) (ab_mkC s_Program_add (Nat.le_of_ble_eq_true rfl) (Nat.le_of_ble_eq_true rfl) (show (H139.sh.length - c0) + 0 ≤ C from by omega) (show (H139.sl - s0) + 0 ≤ Sl from by omega)) (k5 117 rfl rfl) i_Program_add v_Program_add (by rw [(s_80).1]; exact q155) (by decide) rfl rfl (Nat.le_of_ble_eq_true rfl) ?_
    have s_82 : Sa H126 H158 := (s_80).tr (m_Program_add z156)
    refine ab_widen (cells' := H126.sh.length - c0) (slots' := H126.sl - s0) (by show (H139.sh.length - c0) + 0 ≤ _; omega) (by show (H139.sl - s0) + 0 ≤ _; omega) ?_
    clear b_81e b_81f
    refine ab_pop d_Body_nameValue_243 rfl ?_
    refine ab_aload_n d_Body_nameValue_244 rfl rfl rfl ?_
    refine hp_getR (f := 1) d_Body_nameValue_245 (by rw [(s_82).1]; exact q_69) (by decide) rfl (by decide) (k1 158 rfl rfl) rfl e160 ?_
    rw [(s_82).1] at q161
    refine hp_getR (f := 3) d_Body_nameValue_248 (by rw [(s_82).1]; exact q161) (by decide) rfl (by decide) (k3 68 rfl rfl) rfl e163 ?_
    rw [(s_82).1] at q164
    refine hp_getR (f := 1) d_Body_nameValue_251 (by rw [(s_82).1]; exact q164) (by decide) rfl (by decide) (k3 29 rfl rfl) rfl e166 ?_
    refine ab_iload d_Body_nameValue_254 rfl ?_
    rw [(s_82).1] at q168
    refine hp_aald (q := 106) d_Body_nameValue_256 (by decide) tN (by rw [(s_82).1]; exact q168) q169 e171 ?_
    rw [(s_82).1] at q172
    refine hp_getI (f := 3) d_Body_nameValue_257 (by rw [(s_82).1]; exact q172) (by decide) rfl (by decide) (k3 3 rfl rfl) rfl ?_
    refine ab_topxi ex173 ?_
    refine ab_widen (cells' := H158.sh.length - c0) (slots' := H158.sl - s0) (by rw [(s_82).1]; exact Nat.le_refl _) (by rw [(s_82).2]; exact Nat.le_refl _) ?_
    have b_83e := congrArg List.length (s_82).1
    have b_83f := (s_82).2
    refine hp_callS_a (v := .int v175) (H1 := H176) (As := [.int x173]) (rest := []) d_Body_nameValue_260 (k_Body_asValue z174) (ab_mkC s_Body_asValue (Nat.le_of_ble_eq_true rfl) (Nat.le_of_ble_eq_true rfl) (show (H158.sh.length - c0) + 0 ≤ C from by omega) (show (H158.sl - s0) + 0 ≤ Sl from by omega)) (k5 202 rfl rfl) t_Body_asValue rfl (Nat.le_of_ble_eq_true rfl) ?_
    have s_84 : Sa H126 H176 := (s_82).tr (m_Body_asValue z174)
    refine ab_widen (cells' := H126.sh.length - c0) (slots' := H126.sl - s0) (by show (H158.sh.length - c0) + 0 ≤ _; omega) (by show (H158.sl - s0) + 0 ≤ _; omega) ?_
    clear b_83e b_83f
    exact ab_iret d_Body_nameValue_263 rfl (by show _ ≤ C; omega) (by show _ ≤ Sl; omega) (by have hr := Option.some.inj hF; subst hr; exact ⟨rfl, rfl⟩)
def B_Body_nameValue_146 (N : Nat) (p0 : Nat) (l1 : Int32) (l2 : Nat) (l3 : Int32) (l4 : Int32) (w0 : Int32) (H : Hp) : Option ((Ot Int32) × Hp) :=
    if l4 = (0 : Int32) then
    if w0 = (0 : Int32) then
    if (0 : Int32) ≤ l3 then
    B_Body_nameValue_171 N p0 l2 l3 w0 H
    else
    ck (H.sh[p0]? = some (6, 0)) <|
    rf (H.P p0 0) fun a281 =>
    ck (H.sh[a281]? = some (1, 0)) <|
    bT (F_Lexer_refuse N a281 (5 : Int32) l1 H) fun v285 H286 =>
    B_Body_nameValue_171 N p0 l2 l3 w0 H286
    else
    B_Body_nameValue_171 N p0 l2 l3 w0 H
    else
    B_Body_nameValue_171 N p0 l2 l3 w0 H
set_option maxRecDepth 20000 in
set_option maxHeartbeats 2000000 in
theorem mB_Body_nameValue_146 {N : Nat} {p0 : Nat} {l1 : Int32} {l2 : Nat} {l3 : Int32} {l4 : Int32} {w0 : Int32} {H : Hp} {r : (Ot Int32) × Hp} (hF : B_Body_nameValue_146 N p0 l1 l2 l3 l4 w0 H = some r) : Mo H r.2 := by
  unfold B_Body_nameValue_146 at hF
  have hm := Mo.rf H
  rcases ite_s hF with ⟨q_103, hG⟩ | ⟨q_103, hG⟩
  · clear hF
    rcases ite_s hG with ⟨q_104, hF⟩ | ⟨q_104, hF⟩
    · clear hG
      rcases ite_s hF with ⟨q_105, hG⟩ | ⟨q_105, hG⟩
      · clear hF
        exact hm.tr (mB_Body_nameValue_171 hG)
      · clear hF
        obtain ⟨q291, hF⟩ := ck_s hG; clear hG
        obtain ⟨a292, e293, hG⟩ := rf_s hF; clear hF
        obtain ⟨q294, hF⟩ := ck_s hG; clear hG
        refine bT_c hF (fun x298 H297 z295 er => ?_) (fun v296 H297 z295 hG => ?_)
        · subst er; exact hm.tr (m_Lexer_refuse z295)
        clear hF
        replace hm : Mo H H297 := hm.tr (m_Lexer_refuse z295)
        exact hm.tr (mB_Body_nameValue_171 hG)
    · clear hG
      exact hm.tr (mB_Body_nameValue_171 hF)
  · clear hF
    exact hm.tr (mB_Body_nameValue_171 hG)
set_option maxRecDepth 20000 in
set_option maxHeartbeats 2000000 in
theorem kB_Body_nameValue_146 {N : Nat} {p0 : Nat} {c0 s0 C Sl : Nat} {l1 : Int32} {l2 : Nat} {l3 : Int32} {l4 : Int32} {w0 : Int32} {H : Hp} {r : (Ot Int32) × Hp} (hF : B_Body_nameValue_146 N p0 l1 l2 l3 l4 w0 H = some r) (hc0 : c0 ≤ H.sh.length) (hs0 : s0 ≤ H.sl) (hcc : H.sh.length ≤ c0 + C) (hss : H.sl ≤ s0 + Sl) (hC : r.2.sh.length ≤ c0 + C) (hS : r.2.sl ≤ s0 + Sl) : ab_V y_Body_nameValue { frames := 8, cells := C, slots := Sl, locals := 152 } (po (oI r.1) r.2) C Sl (H.sh.length - c0) (H.sl - s0) 146 [some (.ref p0), some (.int l1), some (.ref l2), some (.int l3), some (.int l4), none, none, none, none] [.int w0] (hpw H) := by
  unfold B_Body_nameValue_146 at hF
  refine ab_istore (lv' := [some (.ref p0), some (.int l1), some (.ref l2), some (.int l3), some (.int l4), some (.int w0), none, none, none]) d_Body_nameValue_146 (by decide) rfl ?_
  refine ab_iload d_Body_nameValue_148 rfl ?_
  refine ab_if_ne (tgt := 171) d_Body_nameValue_150 (by decide) (fun q31 => ?_) (fun q31 => ?_)
  · rw [if_neg q31] at hF
    refine ab_le (lv' := [some (.ref p0), none, some (.ref l2), some (.int l3), none, some (.int w0), none, none, none]) ⟨rfl, ⟨rfl, ⟨rfl, ⟨rfl, trivial⟩⟩⟩⟩ ?_
    exact kB_Body_nameValue_171 hF hc0 hs0 hcc hss hC hS
  · rw [if_pos q31] at hF
    refine ab_iload d_Body_nameValue_153 rfl ?_
    refine ab_if_ne (tgt := 171) d_Body_nameValue_155 (by decide) (fun q278 => ?_) (fun q278 => ?_)
    · rw [if_neg q278] at hF
      refine ab_le (lv' := [some (.ref p0), none, some (.ref l2), some (.int l3), none, some (.int w0), none, none, none]) ⟨rfl, ⟨rfl, ⟨rfl, ⟨rfl, trivial⟩⟩⟩⟩ ?_
      exact kB_Body_nameValue_171 hF hc0 hs0 hcc hss hC hS
    · rw [if_pos q278] at hF
      refine ab_iload_n d_Body_nameValue_158 rfl rfl ?_
      refine ab_if_ge (tgt := 171) d_Body_nameValue_159 (by decide) (fun q279 => ?_) (fun q279 => ?_)
      · rw [if_pos q279] at hF
        refine ab_le (lv' := [some (.ref p0), none, some (.ref l2), some (.int l3), none, some (.int w0), none, none, none]) ⟨rfl, ⟨rfl, ⟨rfl, ⟨rfl, trivial⟩⟩⟩⟩ ?_
        exact kB_Body_nameValue_171 hF hc0 hs0 hcc hss hC hS
      · rw [if_neg q279] at hF
        refine ab_aload_n d_Body_nameValue_162 rfl rfl rfl ?_
        obtain ⟨q280, hG⟩ := ck_s hF; clear hF
        obtain ⟨a281, e282, hF⟩ := rf_s hG; clear hG
        refine hp_getR (f := 0) d_Body_nameValue_163 q280 (by decide) rfl (by decide) (k1 157 rfl rfl) rfl e282 ?_
        refine ab_iconst (v := 5) d_Body_nameValue_166 (by decide) ?_
        refine ab_iload_n d_Body_nameValue_167 rfl rfl ?_
        obtain ⟨q283, hG⟩ := ck_s hF; clear hF
        refine bT_c hG (fun x287 H286 z284 er => ?_) (fun v285 H286 z284 hF => ?_)
        · subst er
          have mz : Mo H H286 := (m_Lexer_refuse z284)
          have ml := mz.len
          have m2 := mz.2
          have hC9 : H286.sh.length ≤ c0 + C := hC
          have hS9 : H286.sl ≤ s0 + Sl := hS
          refine hp_callV_t (x := x287) (H1 := H286) (As := [.int 5, .int l1]) (rest := []) d_Body_nameValue_168 (k_Lexer_refuse z284 (C := H286.sh.length - H.sh.length) (Sl := H286.sl - H.sl) (by show H286.sh.length ≤ _; omega) (by show H286.sl ≤ _; omega)) (ab_mkC s_Lexer_refuse (Nat.le_of_ble_eq_true rfl) (Nat.le_of_ble_eq_true rfl) (show (H.sh.length - c0) + (H286.sh.length - H.sh.length) ≤ C from by omega) (show (H.sl - s0) + (H286.sl - H.sl) ≤ Sl from by omega)) (k5 135 rfl rfl) i_Lexer_refuse v_Lexer_refuse q283 (by decide) rfl rfl (Nat.le_of_ble_eq_true rfl) ?_
          exact ab_U_out rfl (by show _ + (H286.sh.length - H.sh.length) ≤ C; omega) (by show _ + (H286.sl - H.sl) ≤ Sl; omega) ⟨rfl, rfl⟩
        clear hG
        have mz_99 : Mo H H286 := (m_Lexer_refuse z284)
        have b_100l := (mz_99).len
        have b_100s := (mz_99).2
        have b_100c : c0 ≤ H286.sh.length := by omega
        have b_100d : s0 ≤ H286.sl := by omega
        have q_101 := (mz_99).get q280
        have q_102 := (mz_99).get q283
        have fH286 : Mo H286 r.2 := by
          have hm := Mo.rf H286
          exact hm.tr (mB_Body_nameValue_171 hF)
        have b_100m := (fH286).len
        have b_100n := (fH286).2
        have b_100p : H286.sh.length ≤ c0 + C := by omega
        have b_100q : H286.sl ≤ s0 + Sl := by omega
        refine hp_callV_v (H1 := H286) (As := [.int 5, .int l1]) (rest := []) d_Body_nameValue_168 (k_Lexer_refuse z284 (C := H286.sh.length - H.sh.length) (Sl := H286.sl - H.sl) (by show H286.sh.length ≤ _; omega) (by show H286.sl ≤ _; omega)) (ab_mkC s_Lexer_refuse (Nat.le_of_ble_eq_true rfl) (Nat.le_of_ble_eq_true rfl) (show (H.sh.length - c0) + (H286.sh.length - H.sh.length) ≤ C from by omega) (show (H.sl - s0) + (H286.sl - H.sl) ≤ Sl from by omega)) (k5 135 rfl rfl) i_Lexer_refuse v_Lexer_refuse q283 (by decide) rfl rfl (Nat.le_of_ble_eq_true rfl) ?_
        refine ab_widen (cells' := H286.sh.length - c0) (slots' := H286.sl - s0) (by show _ + (H286.sh.length - H.sh.length) ≤ _; omega) (by show _ + (H286.sl - H.sl) ≤ _; omega) ?_
        clear b_100l b_100s b_100m b_100n
        refine ab_le (lv' := [some (.ref p0), none, some (.ref l2), some (.int l3), none, some (.int w0), none, none, none]) ⟨rfl, ⟨rfl, ⟨rfl, ⟨rfl, trivial⟩⟩⟩⟩ ?_
        exact kB_Body_nameValue_171 hF b_100c b_100d b_100p b_100q hC hS
def B_Body_nameValue_145 (N : Nat) (p0 : Nat) (l1 : Int32) (l2 : Nat) (l3 : Int32) (l4 : Int32) (H : Hp) : Option ((Ot Int32) × Hp) :=
    B_Body_nameValue_146 N p0 l1 l2 l3 l4 0 H
set_option maxRecDepth 20000 in
set_option maxHeartbeats 2000000 in
theorem mB_Body_nameValue_145 {N : Nat} {p0 : Nat} {l1 : Int32} {l2 : Nat} {l3 : Int32} {l4 : Int32} {H : Hp} {r : (Ot Int32) × Hp} (hF : B_Body_nameValue_145 N p0 l1 l2 l3 l4 H = some r) : Mo H r.2 := by
  unfold B_Body_nameValue_145 at hF
  have hm := Mo.rf H
  exact hm.tr (mB_Body_nameValue_146 hF)
set_option maxRecDepth 20000 in
set_option maxHeartbeats 2000000 in
theorem kB_Body_nameValue_145 {N : Nat} {p0 : Nat} {c0 s0 C Sl : Nat} {l1 : Int32} {l2 : Nat} {l3 : Int32} {l4 : Int32} {H : Hp} {r : (Ot Int32) × Hp} (hF : B_Body_nameValue_145 N p0 l1 l2 l3 l4 H = some r) (hc0 : c0 ≤ H.sh.length) (hs0 : s0 ≤ H.sl) (hcc : H.sh.length ≤ c0 + C) (hss : H.sl ≤ s0 + Sl) (hC : r.2.sh.length ≤ c0 + C) (hS : r.2.sl ≤ s0 + Sl) : ab_V y_Body_nameValue { frames := 8, cells := C, slots := Sl, locals := 152 } (po (oI r.1) r.2) C Sl (H.sh.length - c0) (H.sl - s0) 145 [some (.ref p0), some (.int l1), some (.ref l2), some (.int l3), some (.int l4), none, none, none, none] [] (hpw H) := by
  unfold B_Body_nameValue_145 at hF
  refine ab_iconst (v := 0) d_Body_nameValue_145 (by decide) ?_
  exact kB_Body_nameValue_146 hF hc0 hs0 hcc hss hC hS
def B_Body_nameValue_124 (N : Nat) (p0 : Nat) (l1 : Int32) (l2 : Nat) (l3 : Int32) (w0 : Int32) (H : Hp) : Option ((Ot Int32) × Hp) :=
    ck (H.sh[l2]? = some (2, 0)) <|
    bC (F_Named_isLocal N l2 H) fun v28 H29 =>
    if v28 = (0 : Int32) then
    B_Body_nameValue_145 N p0 l1 l2 l3 w0 H29
    else
    bnd ((H29.D l2 3)) fun x299 =>
    if x299 = (4 : Int32) then
    B_Body_nameValue_146 N p0 l1 l2 l3 w0 1 H29
    else
    B_Body_nameValue_145 N p0 l1 l2 l3 w0 H29
set_option maxRecDepth 20000 in
set_option maxHeartbeats 2000000 in
theorem mB_Body_nameValue_124 {N : Nat} {p0 : Nat} {l1 : Int32} {l2 : Nat} {l3 : Int32} {w0 : Int32} {H : Hp} {r : (Ot Int32) × Hp} (hF : B_Body_nameValue_124 N p0 l1 l2 l3 w0 H = some r) : Mo H r.2 := by
  unfold B_Body_nameValue_124 at hF
  have hm := Mo.rf H
  obtain ⟨q301, hG⟩ := ck_s hF; clear hF
  obtain ⟨v303, H304, z302, hF⟩ := bC_s hG; clear hG
  replace hm : Mo H H304 := hm.tr ((m_Named_isLocal z302)).mo
  rcases ite_s hF with ⟨q_109, hG⟩ | ⟨q_109, hG⟩
  · clear hF
    exact hm.tr (mB_Body_nameValue_145 hG)
  · clear hF
    obtain ⟨x306, -, hF⟩ := bnd_g hG; clear hG
    rcases ite_s hF with ⟨q_110, hG⟩ | ⟨q_110, hG⟩
    · clear hF
      exact hm.tr (mB_Body_nameValue_146 hG)
    · clear hF
      exact hm.tr (mB_Body_nameValue_145 hG)
set_option maxRecDepth 20000 in
set_option maxHeartbeats 2000000 in
theorem kB_Body_nameValue_124 {N : Nat} {p0 : Nat} {c0 s0 C Sl : Nat} {l1 : Int32} {l2 : Nat} {l3 : Int32} {w0 : Int32} {H : Hp} {r : (Ot Int32) × Hp} (hF : B_Body_nameValue_124 N p0 l1 l2 l3 w0 H = some r) (hc0 : c0 ≤ H.sh.length) (hs0 : s0 ≤ H.sl) (hcc : H.sh.length ≤ c0 + C) (hss : H.sl ≤ s0 + Sl) (hC : r.2.sh.length ≤ c0 + C) (hS : r.2.sl ≤ s0 + Sl) : ab_V y_Body_nameValue { frames := 8, cells := C, slots := Sl, locals := 152 } (po (oI r.1) r.2) C Sl (H.sh.length - c0) (H.sl - s0) 124 [some (.ref p0), some (.int l1), some (.ref l2), some (.int l3), none, none, none, none, none] [.int w0] (hpw H) := by
  unfold B_Body_nameValue_124 at hF
  refine ab_istore (lv' := [some (.ref p0), some (.int l1), some (.ref l2), some (.int l3), some (.int w0), none, none, none, none]) d_Body_nameValue_124 (by decide) rfl ?_
  refine ab_aload_n d_Body_nameValue_126 rfl rfl rfl ?_
  obtain ⟨q26, hG⟩ := ck_s hF; clear hF
  obtain ⟨v28, H29, z27, hF⟩ := bC_s hG; clear hG
  refine hp_callV_a (v := .int v28) (H1 := H29) (As := []) (rest := []) d_Body_nameValue_127 (k_Named_isLocal z27) (ab_mkC s_Named_isLocal (Nat.le_of_ble_eq_true rfl) (Nat.le_of_ble_eq_true rfl) (show (H.sh.length - c0) + 0 ≤ C from by omega) (show (H.sl - s0) + 0 ≤ Sl from by omega)) (k5 189 rfl rfl) i_Named_isLocal v_Named_isLocal q26 (by decide) rfl rfl (Nat.le_of_ble_eq_true rfl) ?_
  have s_9 : Sa H H29 := (m_Named_isLocal z27)
  refine ab_widen (cells' := H.sh.length - c0) (slots' := H.sl - s0) (by show (H.sh.length - c0) + 0 ≤ _; omega) (by show (H.sl - s0) + 0 ≤ _; omega) ?_
  refine ab_if_eq (tgt := 145) d_Body_nameValue_130 (by decide) (fun q30 => ?_) (fun q30 => ?_)
  · rw [if_pos q30] at hF
    refine ab_widen (cells' := H29.sh.length - c0) (slots' := H29.sl - s0) (by rw [(s_9).1]; exact Nat.le_refl _) (by rw [(s_9).2]; exact Nat.le_refl _) ?_
    exact kB_Body_nameValue_145 hF (by rw [(s_9).1]; exact hc0) (by rw [(s_9).2]; exact hs0) (by rw [(s_9).1]; exact hcc) (by rw [(s_9).2]; exact hss) hC hS
  · rw [if_neg q30] at hF
    refine ab_aload_n d_Body_nameValue_133 rfl rfl rfl ?_
    refine hp_getI (f := 3) d_Body_nameValue_134 (by rw [(s_9).1]; exact q26) (by decide) rfl (by decide) (k3 3 rfl rfl) rfl ?_
    refine ab_topi (fun x299 ex299 => ?_)
    replace hF := bnd_s ex299 hF
    refine ab_iconst (v := 4) d_Body_nameValue_137 (by decide) ?_
    refine ab_icmp_ne (tgt := 145) d_Body_nameValue_138 (by decide) (fun q300 => ?_) (fun q300 => ?_)
    · rw [if_neg q300] at hF
      refine ab_widen (cells' := H29.sh.length - c0) (slots' := H29.sl - s0) (by rw [(s_9).1]; exact Nat.le_refl _) (by rw [(s_9).2]; exact Nat.le_refl _) ?_
      exact kB_Body_nameValue_145 hF (by rw [(s_9).1]; exact hc0) (by rw [(s_9).2]; exact hs0) (by rw [(s_9).1]; exact hcc) (by rw [(s_9).2]; exact hss) hC hS
    · rw [if_pos q300] at hF
      refine ab_iconst (v := 1) d_Body_nameValue_141 (by decide) ?_
      refine ab_goto (tgt := 146) d_Body_nameValue_142 (by decide) ?_
      refine ab_widen (cells' := H29.sh.length - c0) (slots' := H29.sl - s0) (by rw [(s_9).1]; exact Nat.le_refl _) (by rw [(s_9).2]; exact Nat.le_refl _) ?_
      exact kB_Body_nameValue_146 hF (by rw [(s_9).1]; exact hc0) (by rw [(s_9).2]; exact hs0) (by rw [(s_9).1]; exact hcc) (by rw [(s_9).2]; exact hss) hC hS
def B_Body_nameValue_123 (N : Nat) (p0 : Nat) (l1 : Int32) (l2 : Nat) (l3 : Int32) (H : Hp) : Option ((Ot Int32) × Hp) :=
    B_Body_nameValue_124 N p0 l1 l2 l3 0 H
set_option maxRecDepth 20000 in
set_option maxHeartbeats 2000000 in
theorem mB_Body_nameValue_123 {N : Nat} {p0 : Nat} {l1 : Int32} {l2 : Nat} {l3 : Int32} {H : Hp} {r : (Ot Int32) × Hp} (hF : B_Body_nameValue_123 N p0 l1 l2 l3 H = some r) : Mo H r.2 := by
  unfold B_Body_nameValue_123 at hF
  have hm := Mo.rf H
  exact hm.tr (mB_Body_nameValue_124 hF)
set_option maxRecDepth 20000 in
set_option maxHeartbeats 2000000 in
theorem kB_Body_nameValue_123 {N : Nat} {p0 : Nat} {c0 s0 C Sl : Nat} {l1 : Int32} {l2 : Nat} {l3 : Int32} {H : Hp} {r : (Ot Int32) × Hp} (hF : B_Body_nameValue_123 N p0 l1 l2 l3 H = some r) (hc0 : c0 ≤ H.sh.length) (hs0 : s0 ≤ H.sl) (hcc : H.sh.length ≤ c0 + C) (hss : H.sl ≤ s0 + Sl) (hC : r.2.sh.length ≤ c0 + C) (hS : r.2.sl ≤ s0 + Sl) : ab_V y_Body_nameValue { frames := 8, cells := C, slots := Sl, locals := 152 } (po (oI r.1) r.2) C Sl (H.sh.length - c0) (H.sl - s0) 123 [some (.ref p0), some (.int l1), some (.ref l2), some (.int l3), none, none, none, none, none] [] (hpw H) := by
  unfold B_Body_nameValue_123 at hF
  refine ab_iconst (v := 0) d_Body_nameValue_123 (by decide) ?_
  exact kB_Body_nameValue_124 hF hc0 hs0 hcc hss hC hS
def B_Body_nameValue_88 (N : Nat) (p0 : Nat) (l1 : Int32) (l2 : Nat) (w0 : Int32) (H : Hp) : Option ((Ot Int32) × Hp) :=
    ck (H.sh[l2]? = some (2, 0)) <|
    bnd ((H.D l2 1)) fun x24 =>
    if x24 = (0 : Int32) then
    ck (H.sh[p0]? = some (6, 0)) <|
    rf (H.P p0 1) fun a309 =>
    ck (H.sh[a309]? = some (4, 0)) <|
    rf (H.P a309 9) fun a312 =>
    bnd ((H.D p0 2)) fun x314 =>
    ar H 100 a312 fun n315 =>
    ck (inb x314 n315) <|
    bnd ((H.D a312 (x314).toNatClampNeg)) fun x318 =>
    bnd ((H.D l2 2)) fun x319 =>
    if ((x318 >>> (x319 &&& 31)) &&& (1 : Int32)) = (1 : Int32) then
    B_Body_nameValue_124 N p0 l1 l2 w0 1 H
    else
    B_Body_nameValue_123 N p0 l1 l2 w0 H
    else
    B_Body_nameValue_123 N p0 l1 l2 w0 H
set_option maxRecDepth 20000 in
set_option maxHeartbeats 2000000 in
theorem mB_Body_nameValue_88 {N : Nat} {p0 : Nat} {l1 : Int32} {l2 : Nat} {w0 : Int32} {H : Hp} {r : (Ot Int32) × Hp} (hF : B_Body_nameValue_88 N p0 l1 l2 w0 H = some r) : Mo H r.2 := by
  unfold B_Body_nameValue_88 at hF
  have hm := Mo.rf H
  obtain ⟨q321, hG⟩ := ck_s hF; clear hF
  obtain ⟨x322, -, hF⟩ := bnd_g hG; clear hG
  rcases ite_s hF with ⟨q_111, hG⟩ | ⟨q_111, hG⟩
  · clear hF
    obtain ⟨q324, hF⟩ := ck_s hG; clear hG
    obtain ⟨a325, e326, hG⟩ := rf_s hF; clear hF
    obtain ⟨q327, hF⟩ := ck_s hG; clear hG
    obtain ⟨a328, e329, hG⟩ := rf_s hF; clear hF
    obtain ⟨x330, -, hF⟩ := bnd_g hG; clear hG
    obtain ⟨n331, q332, hG⟩ := ar_s hF; clear hF
    obtain ⟨q333, hF⟩ := ck_s hG; clear hG
    obtain ⟨x334, -, hG⟩ := bnd_g hF; clear hF
    obtain ⟨x335, -, hF⟩ := bnd_g hG; clear hG
    rcases ite_s hF with ⟨q_112, hG⟩ | ⟨q_112, hG⟩
    · clear hF
      exact hm.tr (mB_Body_nameValue_124 hG)
    · clear hF
      exact hm.tr (mB_Body_nameValue_123 hG)
  · clear hF
    exact hm.tr (mB_Body_nameValue_123 hG)
set_option maxRecDepth 20000 in
set_option maxHeartbeats 2000000 in
theorem kB_Body_nameValue_88 {N : Nat} {p0 : Nat} {c0 s0 C Sl : Nat} {l1 : Int32} {l2 : Nat} {w0 : Int32} {H : Hp} {r : (Ot Int32) × Hp} (hF : B_Body_nameValue_88 N p0 l1 l2 w0 H = some r) (hc0 : c0 ≤ H.sh.length) (hs0 : s0 ≤ H.sl) (hcc : H.sh.length ≤ c0 + C) (hss : H.sl ≤ s0 + Sl) (hC : r.2.sh.length ≤ c0 + C) (hS : r.2.sl ≤ s0 + Sl) : ab_V y_Body_nameValue { frames := 8, cells := C, slots := Sl, locals := 152 } (po (oI r.1) r.2) C Sl (H.sh.length - c0) (H.sl - s0) 88 [some (.ref p0), some (.int l1), some (.ref l2), none, none, none, none, none, none] [.int w0] (hpw H) := by
  unfold B_Body_nameValue_88 at hF
  refine ab_istore_n (lv' := [some (.ref p0), some (.int l1), some (.ref l2), some (.int w0), none, none, none, none, none]) d_Body_nameValue_88 rfl (by decide) rfl ?_
  refine ab_aload_n d_Body_nameValue_89 rfl rfl rfl ?_
  obtain ⟨q23, hG⟩ := ck_s hF; clear hF
  refine hp_getI (f := 1) d_Body_nameValue_90 q23 (by decide) rfl (by decide) (k2 234 rfl rfl) rfl ?_
  refine ab_topi (fun x24 ex24 => ?_)
  replace hG := bnd_s ex24 hG
  refine ab_if_ne (tgt := 123) d_Body_nameValue_93 (by decide) (fun q25 => ?_) (fun q25 => ?_)
  · rw [if_neg q25] at hG
    exact kB_Body_nameValue_123 hG hc0 hs0 hcc hss hC hS
  · rw [if_pos q25] at hG
    refine ab_aload_n d_Body_nameValue_96 rfl rfl rfl ?_
    obtain ⟨q308, hF⟩ := ck_s hG; clear hG
    obtain ⟨a309, e310, hG⟩ := rf_s hF; clear hF
    refine hp_getR (f := 1) d_Body_nameValue_97 q308 (by decide) rfl (by decide) (k1 158 rfl rfl) rfl e310 ?_
    obtain ⟨q311, hF⟩ := ck_s hG; clear hG
    obtain ⟨a312, e313, hG⟩ := rf_s hF; clear hF
    refine hp_getR (f := 9) d_Body_nameValue_100 q311 (by decide) rfl (by decide) (k3 88 rfl rfl) rfl e313 ?_
    refine ab_aload_n d_Body_nameValue_103 rfl rfl rfl ?_
    refine hp_getI (f := 2) d_Body_nameValue_104 q308 (by decide) rfl (by decide) (k1 159 rfl rfl) rfl ?_
    refine ab_topi (fun x314 ex314 => ?_)
    replace hG := bnd_s ex314 hG
    obtain ⟨n315, q316, hF⟩ := ar_s hG; clear hG
    obtain ⟨q317, hG⟩ := ck_s hF; clear hF
    refine hp_iald d_Body_nameValue_107 tI q316 q317 ?_
    refine ab_topi (fun x318 ex318 => ?_)
    replace hG := bnd_s ex318 hG
    refine ab_aload_n d_Body_nameValue_108 rfl rfl rfl ?_
    refine hp_getI (f := 2) d_Body_nameValue_109 q23 (by decide) rfl (by decide) (k2 237 rfl rfl) rfl ?_
    refine ab_topi (fun x319 ex319 => ?_)
    replace hG := bnd_s ex319 hG
    refine ab_ishr d_Body_nameValue_112 ?_
    refine ab_iconst (v := 1) d_Body_nameValue_113 (by decide) ?_
    refine ab_iand d_Body_nameValue_114 ?_
    refine ab_iconst (v := 1) d_Body_nameValue_115 (by decide) ?_
    refine ab_icmp_ne (tgt := 123) d_Body_nameValue_116 (by decide) (fun q320 => ?_) (fun q320 => ?_)
    · rw [if_neg q320] at hG
      exact kB_Body_nameValue_123 hG hc0 hs0 hcc hss hC hS
    · rw [if_pos q320] at hG
      refine ab_iconst (v := 1) d_Body_nameValue_119 (by decide) ?_
      refine ab_goto (tgt := 124) d_Body_nameValue_120 (by decide) ?_
      exact kB_Body_nameValue_124 hG hc0 hs0 hcc hss hC hS
def B_Body_nameValue_41 (N : Nat) (p0 : Nat) (l2 : Nat) (H : Hp) : Option ((Ot Int32) × Hp) :=
    ck (H.sh[p0]? = some (6, 0)) <|
    rf (H.P p0 1) fun a350 =>
    ck (H.sh[a350]? = some (4, 0)) <|
    bC (F_Program_add N a350 (33 : Int32) H) fun v354 H355 =>
    rf (H355.P p0 1) fun a356 =>
    ck (H355.sh[l2]? = some (2, 0)) <|
    bnd ((H355.D l2 2)) fun x359 =>
    ck (H355.sh[a356]? = some (4, 0)) <|
    bC (F_Program_add N a356 x359 H355) fun v362 H363 =>
    bnd ((H363.D l2 3)) fun x364 =>
    some (.inl x364, H363)
set_option maxRecDepth 20000 in
set_option maxHeartbeats 2000000 in
theorem mB_Body_nameValue_41 {N : Nat} {p0 : Nat} {l2 : Nat} {H : Hp} {r : (Ot Int32) × Hp} (hF : B_Body_nameValue_41 N p0 l2 H = some r) : Mo H r.2 := by
  unfold B_Body_nameValue_41 at hF
  have hm := Mo.rf H
  obtain ⟨q365, hG⟩ := ck_s hF; clear hF
  obtain ⟨a366, e367, hF⟩ := rf_s hG; clear hG
  obtain ⟨q368, hG⟩ := ck_s hF; clear hF
  obtain ⟨v370, H371, z369, hF⟩ := bC_s hG; clear hG
  replace hm : Mo H H371 := hm.tr ((m_Program_add z369)).mo
  obtain ⟨a372, e373, hG⟩ := rf_s hF; clear hF
  obtain ⟨q374, hF⟩ := ck_s hG; clear hG
  obtain ⟨x375, -, hG⟩ := bnd_g hF; clear hF
  obtain ⟨q376, hF⟩ := ck_s hG; clear hG
  obtain ⟨v378, H379, z377, hG⟩ := bC_s hF; clear hF
  replace hm : Mo H H379 := hm.tr ((m_Program_add z377)).mo
  obtain ⟨x380, -, hF⟩ := bnd_g hG; clear hG
  have hr := Option.some.inj hF; subst hr
  exact hm
set_option maxRecDepth 20000 in
set_option maxHeartbeats 2000000 in
theorem kB_Body_nameValue_41 {N : Nat} {p0 : Nat} {c0 s0 C Sl : Nat} {l2 : Nat} {H : Hp} {r : (Ot Int32) × Hp} (hF : B_Body_nameValue_41 N p0 l2 H = some r) (hc0 : c0 ≤ H.sh.length) (hs0 : s0 ≤ H.sl) (hcc : H.sh.length ≤ c0 + C) (hss : H.sl ≤ s0 + Sl) (hC : r.2.sh.length ≤ c0 + C) (hS : r.2.sl ≤ s0 + Sl) : ab_V y_Body_nameValue { frames := 8, cells := C, slots := Sl, locals := 152 } (po (oI r.1) r.2) C Sl (H.sh.length - c0) (H.sl - s0) 41 [some (.ref p0), none, some (.ref l2), none, none, none, none, none, none] [] (hpw H) := by
  unfold B_Body_nameValue_41 at hF
  refine ab_aload_n d_Body_nameValue_41 rfl rfl rfl ?_
  obtain ⟨q349, hG⟩ := ck_s hF; clear hF
  obtain ⟨a350, e351, hF⟩ := rf_s hG; clear hG
  refine hp_getR (f := 1) d_Body_nameValue_42 q349 (by decide) rfl (by decide) (k1 158 rfl rfl) rfl e351 ?_
  refine ab_bipush (v := 33) d_Body_nameValue_45 (by decide) ?_
  obtain ⟨q352, hG⟩ := ck_s hF; clear hF
  obtain ⟨v354, H355, z353, hF⟩ := bC_s hG; clear hG
  refine hp_callV_a (v := .int v354) (H1 := H355) (As := [.int 33]) (rest := []) d_Body_nameValue_47 (k_Program_add z353) (ab_mkC s_Program_add (Nat.le_of_ble_eq_true rfl) (Nat.le_of_ble_eq_true rfl) (show (H.sh.length - c0) + 0 ≤ C from by omega) (show (H.sl - s0) + 0 ≤ Sl from by omega)) (k5 117 rfl rfl) i_Program_add v_Program_add q352 (by decide) rfl rfl (Nat.le_of_ble_eq_true rfl) ?_
  have s_121 : Sa H H355 := (m_Program_add z353)
  refine ab_widen (cells' := H.sh.length - c0) (slots' := H.sl - s0) (by show (H.sh.length - c0) + 0 ≤ _; omega) (by show (H.sl - s0) + 0 ≤ _; omega) ?_
  refine ab_pop d_Body_nameValue_50 rfl ?_
  refine ab_aload_n d_Body_nameValue_51 rfl rfl rfl ?_
  obtain ⟨a356, e357, hG⟩ := rf_s hF; clear hF
  refine hp_getR (f := 1) d_Body_nameValue_52 (by rw [(s_121).1]; exact q349) (by decide) rfl (by decide) (k1 158 rfl rfl) rfl e357 ?_
  refine ab_aload_n d_Body_nameValue_55 rfl rfl rfl ?_
  obtain ⟨q358, hF⟩ := ck_s hG; clear hG
  rw [(s_121).1] at q358
  refine hp_getI (f := 2) d_Body_nameValue_56 (by rw [(s_121).1]; exact q358) (by decide) rfl (by decide) (k2 237 rfl rfl) rfl ?_
  refine ab_topi (fun x359 ex359 => ?_)
  replace hF := bnd_s ex359 hF
  obtain ⟨q360, hG⟩ := ck_s hF; clear hF
  rw [(s_121).1] at q360
  obtain ⟨v362, H363, z361, hF⟩ := bC_s hG; clear hG
  refine ab_widen (cells' := H355.sh.length - c0) (slots' := H355.sl - s0) (by rw [(s_121).1]; exact Nat.le_refl _) (by rw [(s_121).2]; exact Nat.le_refl _) ?_
  have b_122e := congrArg List.length (s_121).1
  have b_122f := (s_121).2
  refine hp_callV_a (v := .int v362) (H1 := H363) (As := [.int x359]) (rest := []) d_Body_nameValue_59 (k_Program_add z361) (ab_mkC s_Program_add (Nat.le_of_ble_eq_true rfl) (Nat.le_of_ble_eq_true rfl) (show (H355.sh.length - c0) + 0 ≤ C from by omega) (show (H355.sl - s0) + 0 ≤ Sl from by omega)) (k5 117 rfl rfl) i_Program_add v_Program_add (by rw [(s_121).1]; exact q360) (by decide) rfl rfl (Nat.le_of_ble_eq_true rfl) ?_
  have s_123 : Sa H H363 := (s_121).tr (m_Program_add z361)
  refine ab_widen (cells' := H.sh.length - c0) (slots' := H.sl - s0) (by show (H355.sh.length - c0) + 0 ≤ _; omega) (by show (H355.sl - s0) + 0 ≤ _; omega) ?_
  clear b_122e b_122f
  refine ab_pop d_Body_nameValue_62 rfl ?_
  refine ab_aload_n d_Body_nameValue_63 rfl rfl rfl ?_
  refine hp_getI (f := 3) d_Body_nameValue_64 (by rw [(s_123).1]; exact q358) (by decide) rfl (by decide) (k3 3 rfl rfl) rfl ?_
  refine ab_topi (fun x364 ex364 => ?_)
  replace hF := bnd_s ex364 hF
  exact ab_iret d_Body_nameValue_67 rfl (by show _ ≤ C; omega) (by show _ ≤ Sl; omega) (by have hr := Option.some.inj hF; subst hr; exact ⟨rfl, rfl⟩)
def F_Body_nameValue (N : Nat) (p0 : Nat) (H : Hp) : Option ((Ot Int32) × Hp) :=
    ck (H.sh[p0]? = some (6, 0)) <|
    rf (H.P p0 0) fun a2 =>
    ck (H.sh[a2]? = some (1, 0)) <|
    bnd ((H.D a2 3)) fun x5 =>
    bT (F_Body_knownHere N p0 H) fun v7 H8 =>
    on v7 fun a10 =>
    rf (H8.P p0 0) fun a11 =>
    ck (H8.sh[a11]? = some (1, 0)) <|
    bnd ((H8.D a11 2)) fun x14 =>
    if x14 = (16 : Int32) then
    ck (H8.sh[a10]? = some (2, 0)) <|
    bnd ((H8.D a10 1)) fun x17 =>
    if x17 = (1 : Int32) then
    bnd ((H8.D a10 2)) fun x19 =>
    bC (F_Body_loopOf N p0 x19 H8) fun v21 H22 =>
    B_Body_nameValue_88 N p0 x5 a10 v21 H22
    else
    B_Body_nameValue_88 N p0 x5 a10 (-1) H8
    else
    ck (H8.sh[a10]? = some (2, 0)) <|
    bC (F_Named_isLocal N a10 H8) fun v25 H26 =>
    if v25 = (0 : Int32) then
    rf (H26.P p0 0) fun a28 =>
    ck (H26.sh[a28]? = some (1, 0)) <|
    bT (F_Lexer_refuse N a28 (5 : Int32) x5 H26) fun v32 H33 =>
    B_Body_nameValue_41 N p0 a10 H33
    else
    B_Body_nameValue_41 N p0 a10 H26
set_option maxRecDepth 20000 in
set_option maxHeartbeats 2000000 in
theorem m_Body_nameValue {N : Nat} {p0 : Nat} {H : Hp} {r : (Ot Int32) × Hp} (hF : F_Body_nameValue N p0 H = some r) : Mo H r.2 := by
  unfold F_Body_nameValue at hF
  have hm := Mo.rf H
  obtain ⟨q35, hG⟩ := ck_s hF; clear hF
  obtain ⟨a36, e37, hF⟩ := rf_s hG; clear hG
  obtain ⟨q38, hG⟩ := ck_s hF; clear hF
  obtain ⟨x39, -, hF⟩ := bnd_g hG; clear hG
  refine bT_c hF (fun x43 H42 z40 er => ?_) (fun v41 H42 z40 hG => ?_)
  · subst er; exact hm.tr (m_Body_knownHere z40)
  clear hF
  replace hm : Mo H H42 := hm.tr (m_Body_knownHere z40)
  obtain ⟨a44, ea44, hF⟩ := on_s hG; clear hG
  subst ea44
  obtain ⟨a45, e46, hG⟩ := rf_s hF; clear hF
  obtain ⟨q47, hF⟩ := ck_s hG; clear hG
  obtain ⟨x48, -, hG⟩ := bnd_g hF; clear hF
  rcases ite_s hG with ⟨q_138, hF⟩ | ⟨q_138, hF⟩
  · clear hG
    obtain ⟨q50, hG⟩ := ck_s hF; clear hF
    obtain ⟨x51, -, hF⟩ := bnd_g hG; clear hG
    rcases ite_s hF with ⟨q_139, hG⟩ | ⟨q_139, hG⟩
    · clear hF
      obtain ⟨x53, -, hF⟩ := bnd_g hG; clear hG
      obtain ⟨v55, H56, z54, hG⟩ := bC_s hF; clear hF
      replace hm : Mo H H56 := hm.tr ((m_Body_loopOf z54)).mo
      exact hm.tr (mB_Body_nameValue_88 hG)
    · clear hF
      exact hm.tr (mB_Body_nameValue_88 hG)
  · clear hG
    obtain ⟨q57, hG⟩ := ck_s hF; clear hF
    obtain ⟨v59, H60, z58, hF⟩ := bC_s hG; clear hG
    replace hm : Mo H H60 := hm.tr ((m_Named_isLocal z58)).mo
    rcases ite_s hF with ⟨q_140, hG⟩ | ⟨q_140, hG⟩
    · clear hF
      obtain ⟨a62, e63, hF⟩ := rf_s hG; clear hG
      obtain ⟨q64, hG⟩ := ck_s hF; clear hF
      refine bT_c hG (fun x68 H67 z65 er => ?_) (fun v66 H67 z65 hF => ?_)
      · subst er; exact hm.tr (m_Lexer_refuse z65)
      clear hG
      replace hm : Mo H H67 := hm.tr (m_Lexer_refuse z65)
      exact hm.tr (mB_Body_nameValue_41 hF)
    · clear hF
      exact hm.tr (mB_Body_nameValue_41 hG)
set_option maxRecDepth 20000 in
set_option maxHeartbeats 2000000 in
theorem k_Body_nameValue {N : Nat} {p0 : Nat} {H : Hp} {r : (Ot Int32) × Hp} {C Sl : Nat} (hF : F_Body_nameValue N p0 H = some r) (hC : r.2.sh.length ≤ H.sh.length + C) (hS : r.2.sl ≤ H.sl + Sl) : ab_M y_Body_nameValue { frames := 8, cells := C, slots := Sl, locals := 152 } [.ref p0] (hpw H) (po (oI r.1) r.2) := by
  unfold F_Body_nameValue at hF
  obtain ⟨c0, e0⟩ : ∃ q, q = H.sh.length := ⟨_, rfl⟩
  obtain ⟨s0, e1⟩ : ∃ q, q = H.sl := ⟨_, rfl⟩
  rw [← e0] at hC
  rw [← e1] at hS
  have hc0 : c0 ≤ H.sh.length := Nat.le_of_eq e0
  have hs0 : s0 ≤ H.sl := Nat.le_of_eq e1
  have hcc : H.sh.length ≤ c0 + C := by omega
  have hss : H.sl ≤ s0 + Sl := by omega
  refine ab_of2 (lv := [some (.ref p0), none, none, none, none, none, none, none, none]) 8 rfl rfl (Nat.le_of_ble_eq_true rfl) ?_
  refine ab_widen (cells' := H.sh.length - c0) (slots' := H.sl - s0) (Nat.zero_le _) (Nat.zero_le _) ?_
  refine ab_aload_n d_Body_nameValue_0 rfl rfl rfl ?_
  obtain ⟨q1, hG⟩ := ck_s hF; clear hF
  obtain ⟨a2, e3, hF⟩ := rf_s hG; clear hG
  refine hp_getR (f := 0) d_Body_nameValue_1 q1 (by decide) rfl (by decide) (k1 157 rfl rfl) rfl e3 ?_
  obtain ⟨q4, hG⟩ := ck_s hF; clear hF
  refine hp_getI (f := 3) d_Body_nameValue_4 q4 (by decide) rfl (by decide) (k1 103 rfl rfl) rfl ?_
  refine ab_topi (fun x5 ex5 => ?_)
  replace hG := bnd_s ex5 hG
  refine ab_istore_n (lv' := [some (.ref p0), some (.int x5), none, none, none, none, none, none, none]) d_Body_nameValue_7 rfl (by decide) rfl ?_
  refine ab_aload_n d_Body_nameValue_8 rfl rfl rfl ?_
  refine bT_c hG (fun x9 H8 z6 er => ?_) (fun v7 H8 z6 hF => ?_)
  · subst er
    have mz : Mo H H8 := (m_Body_knownHere z6)
    have ml := mz.len
    have m2 := mz.2
    have hC9 : H8.sh.length ≤ c0 + C := hC
    have hS9 : H8.sl ≤ s0 + Sl := hS
    refine hp_callV_t (x := x9) (H1 := H8) (As := []) (rest := []) d_Body_nameValue_9 (k_Body_knownHere z6 (C := H8.sh.length - H.sh.length) (Sl := H8.sl - H.sl) (by show H8.sh.length ≤ _; omega) (by show H8.sl ≤ _; omega)) (ab_mkC s_Body_knownHere (Nat.le_of_ble_eq_true rfl) (Nat.le_of_ble_eq_true rfl) (show (H.sh.length - c0) + (H8.sh.length - H.sh.length) ≤ C from by omega) (show (H.sl - s0) + (H8.sl - H.sl) ≤ Sl from by omega)) (k5 181 rfl rfl) i_Body_knownHere v_Body_knownHere q1 (by decide) rfl rfl (Nat.le_of_ble_eq_true rfl) ?_
    exact ab_U_out rfl (by show _ + (H8.sh.length - H.sh.length) ≤ C; omega) (by show _ + (H8.sl - H.sl) ≤ Sl; omega) ⟨rfl, rfl⟩
  clear hG
  have mz_1 : Mo H H8 := (m_Body_knownHere z6)
  have b_2l := (mz_1).len
  have b_2s := (mz_1).2
  have b_2c : c0 ≤ H8.sh.length := by omega
  have b_2d : s0 ≤ H8.sl := by omega
  have q_3 := (mz_1).get q1
  have q_4 := (mz_1).get q4
  have mf_5 : Mo H8 r.2 := by
    have hm := Mo.rf H8
    obtain ⟨a10, ea10, hG⟩ := on_s hF; clear hF
    subst ea10
    obtain ⟨a11, e12, hF⟩ := rf_s hG; clear hG
    obtain ⟨q13, hG⟩ := ck_s hF; clear hF
    obtain ⟨x14, -, hF⟩ := bnd_g hG; clear hG
    rcases ite_s hF with ⟨q_6, hG⟩ | ⟨q_6, hG⟩
    · clear hF
      obtain ⟨q16, hF⟩ := ck_s hG; clear hG
      obtain ⟨x17, -, hG⟩ := bnd_g hF; clear hF
      rcases ite_s hG with ⟨q_7, hF⟩ | ⟨q_7, hF⟩
      · clear hG
        obtain ⟨x19, -, hG⟩ := bnd_g hF; clear hF
        obtain ⟨v21, H22, z20, hF⟩ := bC_s hG; clear hG
        replace hm : Mo H8 H22 := hm.tr ((m_Body_loopOf z20)).mo
        exact hm.tr (mB_Body_nameValue_88 hF)
      · clear hG
        exact hm.tr (mB_Body_nameValue_88 hF)
    · clear hF
      obtain ⟨q337, hF⟩ := ck_s hG; clear hG
      obtain ⟨v339, H340, z338, hG⟩ := bC_s hF; clear hF
      replace hm : Mo H8 H340 := hm.tr ((m_Named_isLocal z338)).mo
      rcases ite_s hG with ⟨q_113, hF⟩ | ⟨q_113, hF⟩
      · clear hG
        obtain ⟨a342, e343, hG⟩ := rf_s hF; clear hF
        obtain ⟨q344, hF⟩ := ck_s hG; clear hG
        refine bT_c hF (fun x348 H347 z345 er => ?_) (fun v346 H347 z345 hG => ?_)
        · subst er; exact hm.tr (m_Lexer_refuse z345)
        clear hF
        replace hm : Mo H8 H347 := hm.tr (m_Lexer_refuse z345)
        exact hm.tr (mB_Body_nameValue_41 hG)
      · clear hG
        exact hm.tr (mB_Body_nameValue_41 hF)
  have b_2m := (mf_5).len
  have b_2n := (mf_5).2
  have b_2p : H8.sh.length ≤ c0 + C := by omega
  have b_2q : H8.sl ≤ s0 + Sl := by omega
  refine hp_callV_a (v := ab_rf v7) (H1 := H8) (As := []) (rest := []) d_Body_nameValue_9 (k_Body_knownHere z6 (C := H8.sh.length - H.sh.length) (Sl := H8.sl - H.sl) (by show H8.sh.length ≤ _; omega) (by show H8.sl ≤ _; omega)) (ab_mkC s_Body_knownHere (Nat.le_of_ble_eq_true rfl) (Nat.le_of_ble_eq_true rfl) (show (H.sh.length - c0) + (H8.sh.length - H.sh.length) ≤ C from by omega) (show (H.sl - s0) + (H8.sl - H.sl) ≤ Sl from by omega)) (k5 181 rfl rfl) i_Body_knownHere v_Body_knownHere q1 (by decide) rfl rfl (Nat.le_of_ble_eq_true rfl) ?_
  refine ab_widen (cells' := H8.sh.length - c0) (slots' := H8.sl - s0) (by show _ + (H8.sh.length - H.sh.length) ≤ _; omega) (by show _ + (H8.sl - H.sl) ≤ _; omega) ?_
  clear b_2l b_2s b_2m b_2n
  obtain ⟨a10, ea10, hG⟩ := on_s hF; clear hF
  subst ea10
  refine ab_astore_n (lv' := [some (.ref p0), some (.int x5), some (.ref a10), none, none, none, none, none, none]) d_Body_nameValue_12 rfl (by decide) rfl rfl ?_
  refine ab_aload_n d_Body_nameValue_13 rfl rfl rfl ?_
  obtain ⟨a11, e12, hF⟩ := rf_s hG; clear hG
  refine hp_getR (f := 0) d_Body_nameValue_14 q_3 (by decide) rfl (by decide) (k1 157 rfl rfl) rfl e12 ?_
  obtain ⟨q13, hG⟩ := ck_s hF; clear hF
  refine hp_getI (f := 2) d_Body_nameValue_17 q13 (by decide) rfl (by decide) (k1 99 rfl rfl) rfl ?_
  refine ab_topi (fun x14 ex14 => ?_)
  replace hG := bnd_s ex14 hG
  refine ab_bipush (v := 16) d_Body_nameValue_20 (by decide) ?_
  refine ab_icmp_eq (tgt := 68) d_Body_nameValue_22 (by decide) (fun q15 => ?_) (fun q15 => ?_)
  · rw [if_pos q15] at hG
    refine ab_aload_n d_Body_nameValue_68 rfl rfl rfl ?_
    obtain ⟨q16, hF⟩ := ck_s hG; clear hG
    refine hp_getI (f := 1) d_Body_nameValue_69 q16 (by decide) rfl (by decide) (k2 234 rfl rfl) rfl ?_
    refine ab_topi (fun x17 ex17 => ?_)
    replace hF := bnd_s ex17 hF
    refine ab_iconst (v := 1) d_Body_nameValue_72 (by decide) ?_
    refine ab_icmp_ne (tgt := 87) d_Body_nameValue_73 (by decide) (fun q18 => ?_) (fun q18 => ?_)
    · rw [if_neg q18] at hF
      refine ab_iconst (v := (-1)) d_Body_nameValue_87 (by decide) ?_
      exact kB_Body_nameValue_88 hF b_2c b_2d b_2p b_2q hC hS
    · rw [if_pos q18] at hF
      refine ab_aload_n d_Body_nameValue_76 rfl rfl rfl ?_
      refine ab_aload_n d_Body_nameValue_77 rfl rfl rfl ?_
      refine hp_getI (f := 2) d_Body_nameValue_78 q16 (by decide) rfl (by decide) (k2 237 rfl rfl) rfl ?_
      refine ab_topi (fun x19 ex19 => ?_)
      replace hF := bnd_s ex19 hF
      obtain ⟨v21, H22, z20, hG⟩ := bC_s hF; clear hF
      refine hp_callV_a (v := .int v21) (H1 := H22) (As := [.int x19]) (rest := []) d_Body_nameValue_81 (k_Body_loopOf z20) (ab_mkC s_Body_loopOf (Nat.le_of_ble_eq_true rfl) (Nat.le_of_ble_eq_true rfl) (show (H8.sh.length - c0) + 0 ≤ C from by omega) (show (H8.sl - s0) + 0 ≤ Sl from by omega)) (k5 193 rfl rfl) i_Body_loopOf v_Body_loopOf q_3 (by decide) rfl rfl (Nat.le_of_ble_eq_true rfl) ?_
      have s_125 : Sa H8 H22 := (m_Body_loopOf z20)
      refine ab_widen (cells' := H8.sh.length - c0) (slots' := H8.sl - s0) (by show (H8.sh.length - c0) + 0 ≤ _; omega) (by show (H8.sl - s0) + 0 ≤ _; omega) ?_
      refine ab_goto (tgt := 88) d_Body_nameValue_84 (by decide) ?_
      refine ab_widen (cells' := H22.sh.length - c0) (slots' := H22.sl - s0) (by rw [(s_125).1]; exact Nat.le_refl _) (by rw [(s_125).2]; exact Nat.le_refl _) ?_
      exact kB_Body_nameValue_88 hG (by rw [(s_125).1]; exact b_2c) (by rw [(s_125).2]; exact b_2d) (by rw [(s_125).1]; exact b_2p) (by rw [(s_125).2]; exact b_2q) hC hS
  · rw [if_neg q15] at hG
    refine ab_aload_n d_Body_nameValue_25 rfl rfl rfl ?_
    obtain ⟨q23, hF⟩ := ck_s hG; clear hG
    obtain ⟨v25, H26, z24, hG⟩ := bC_s hF; clear hF
    refine hp_callV_a (v := .int v25) (H1 := H26) (As := []) (rest := []) d_Body_nameValue_26 (k_Named_isLocal z24) (ab_mkC s_Named_isLocal (Nat.le_of_ble_eq_true rfl) (Nat.le_of_ble_eq_true rfl) (show (H8.sh.length - c0) + 0 ≤ C from by omega) (show (H8.sl - s0) + 0 ≤ Sl from by omega)) (k5 189 rfl rfl) i_Named_isLocal v_Named_isLocal q23 (by decide) rfl rfl (Nat.le_of_ble_eq_true rfl) ?_
    have s_127 : Sa H8 H26 := (m_Named_isLocal z24)
    refine ab_widen (cells' := H8.sh.length - c0) (slots' := H8.sl - s0) (by show (H8.sh.length - c0) + 0 ≤ _; omega) (by show (H8.sl - s0) + 0 ≤ _; omega) ?_
    refine ab_if_ne (tgt := 41) d_Body_nameValue_29 (by decide) (fun q27 => ?_) (fun q27 => ?_)
    · rw [if_neg q27] at hG
      refine ab_le (lv' := [some (.ref p0), none, some (.ref a10), none, none, none, none, none, none]) ⟨rfl, ⟨rfl, trivial⟩⟩ ?_
      refine ab_widen (cells' := H26.sh.length - c0) (slots' := H26.sl - s0) (by rw [(s_127).1]; exact Nat.le_refl _) (by rw [(s_127).2]; exact Nat.le_refl _) ?_
      exact kB_Body_nameValue_41 hG (by rw [(s_127).1]; exact b_2c) (by rw [(s_127).2]; exact b_2d) (by rw [(s_127).1]; exact b_2p) (by rw [(s_127).2]; exact b_2q) hC hS
    · rw [if_pos q27] at hG
      refine ab_aload_n d_Body_nameValue_32 rfl rfl rfl ?_
      obtain ⟨a28, e29, hF⟩ := rf_s hG; clear hG
      refine hp_getR (f := 0) d_Body_nameValue_33 (by rw [(s_127).1]; exact q_3) (by decide) rfl (by decide) (k1 157 rfl rfl) rfl e29 ?_
      refine ab_iconst (v := 5) d_Body_nameValue_36 (by decide) ?_
      refine ab_iload_n d_Body_nameValue_37 rfl rfl ?_
      obtain ⟨q30, hG⟩ := ck_s hF; clear hF
      rw [(s_127).1] at q30
      refine bT_c hG (fun x34 H33 z31 er => ?_) (fun v32 H33 z31 hF => ?_)
      · subst er
        refine ab_widen (cells' := H26.sh.length - c0) (slots' := H26.sl - s0) (by rw [(s_127).1]; exact Nat.le_refl _) (by rw [(s_127).2]; exact Nat.le_refl _) ?_
        have mz : Mo H26 H33 := (m_Lexer_refuse z31)
        have ml := mz.len
        have m2 := mz.2
        have be := congrArg List.length (s_127).1
        have bfx := (s_127).2
        have hC9 : H33.sh.length ≤ c0 + C := hC
        have hS9 : H33.sl ≤ s0 + Sl := hS
        refine hp_callV_t (x := x34) (H1 := H33) (As := [.int 5, .int x5]) (rest := []) d_Body_nameValue_38 (k_Lexer_refuse z31 (C := H33.sh.length - H26.sh.length) (Sl := H33.sl - H26.sl) (by show H33.sh.length ≤ _; omega) (by show H33.sl ≤ _; omega)) (ab_mkC s_Lexer_refuse (Nat.le_of_ble_eq_true rfl) (Nat.le_of_ble_eq_true rfl) (show (H26.sh.length - c0) + (H33.sh.length - H26.sh.length) ≤ C from by omega) (show (H26.sl - s0) + (H33.sl - H26.sl) ≤ Sl from by omega)) (k5 135 rfl rfl) i_Lexer_refuse v_Lexer_refuse (by rw [(s_127).1]; exact q30) (by decide) rfl rfl (Nat.le_of_ble_eq_true rfl) ?_
        exact ab_U_out rfl (by show _ + (H33.sh.length - H26.sh.length) ≤ C; omega) (by show _ + (H33.sl - H26.sl) ≤ Sl; omega) ⟨rfl, rfl⟩
      clear hG
      refine ab_widen (cells' := H26.sh.length - c0) (slots' := H26.sl - s0) (by rw [(s_127).1]; exact Nat.le_refl _) (by rw [(s_127).2]; exact Nat.le_refl _) ?_
      have mz_128 : Mo H26 H33 := (m_Lexer_refuse z31)
      have b_129l := (mz_128).len
      have b_129s := (mz_128).2
      have b_129e := congrArg List.length (s_127).1
      have b_129f := (s_127).2
      have b_129c : c0 ≤ H33.sh.length := by omega
      have b_129d : s0 ≤ H33.sl := by omega
      have q_130 := (mz_128).get (by rw [(s_127).1]; exact q_3)
      have q_131 := (mz_128).get (by rw [(s_127).1]; exact q_4)
      have q_132 := (mz_128).get (by rw [(s_127).1]; exact q13)
      have q_133 := (mz_128).get (by rw [(s_127).1]; exact q23)
      have q_134 := (mz_128).get (by rw [(s_127).1]; exact q30)
      have fH33 : Mo H33 r.2 := by
        have hm := Mo.rf H33
        exact hm.tr (mB_Body_nameValue_41 hF)
      have b_129m := (fH33).len
      have b_129n := (fH33).2
      have b_129p : H33.sh.length ≤ c0 + C := by omega
      have b_129q : H33.sl ≤ s0 + Sl := by omega
      refine hp_callV_v (H1 := H33) (As := [.int 5, .int x5]) (rest := []) d_Body_nameValue_38 (k_Lexer_refuse z31 (C := H33.sh.length - H26.sh.length) (Sl := H33.sl - H26.sl) (by show H33.sh.length ≤ _; omega) (by show H33.sl ≤ _; omega)) (ab_mkC s_Lexer_refuse (Nat.le_of_ble_eq_true rfl) (Nat.le_of_ble_eq_true rfl) (show (H26.sh.length - c0) + (H33.sh.length - H26.sh.length) ≤ C from by omega) (show (H26.sl - s0) + (H33.sl - H26.sl) ≤ Sl from by omega)) (k5 135 rfl rfl) i_Lexer_refuse v_Lexer_refuse (by rw [(s_127).1]; exact q30) (by decide) rfl rfl (Nat.le_of_ble_eq_true rfl) ?_
      refine ab_widen (cells' := H33.sh.length - c0) (slots' := H33.sl - s0) (by show _ + (H33.sh.length - H26.sh.length) ≤ _; omega) (by show _ + (H33.sl - H26.sl) ≤ _; omega) ?_
      clear b_129l b_129s b_129m b_129n b_129e b_129f b_2c b_2d b_2p b_2q
      refine ab_le (lv' := [some (.ref p0), none, some (.ref a10), none, none, none, none, none, none]) ⟨rfl, ⟨rfl, trivial⟩⟩ ?_
      exact kB_Body_nameValue_41 hF b_129c b_129d b_129p b_129q hC hS
def y_Body_push : ab_Y := (⟨"WorldEngine$Body", "push", "(I)V"⟩, prog_2_method_43_code, 2, none, [])
theorem d_Body_push_0 : decode y_Body_push.2.1 0 = .ok (.aload_n 0, 1) := by decide +kernel
theorem d_Body_push_1 : decode y_Body_push.2.1 1 = .ok (.getfield 17, 3) := by decide +kernel
theorem d_Body_push_4 : decode y_Body_push.2.1 4 = .ok (.bipush 30, 2) := by decide +kernel
theorem d_Body_push_6 : decode y_Body_push.2.1 6 = .ok (.invokevirtual 50, 3) := by decide +kernel
theorem d_Body_push_9 : decode y_Body_push.2.1 9 = .ok (.pop, 1) := by decide +kernel
theorem d_Body_push_10 : decode y_Body_push.2.1 10 = .ok (.aload_n 0, 1) := by decide +kernel
theorem d_Body_push_11 : decode y_Body_push.2.1 11 = .ok (.getfield 17, 3) := by decide +kernel
theorem d_Body_push_14 : decode y_Body_push.2.1 14 = .ok (.iload_n 1, 1) := by decide +kernel
theorem d_Body_push_15 : decode y_Body_push.2.1 15 = .ok (.invokevirtual 50, 3) := by decide +kernel
theorem d_Body_push_18 : decode y_Body_push.2.1 18 = .ok (.pop, 1) := by decide +kernel
theorem d_Body_push_19 : decode y_Body_push.2.1 19 = .ok (.return_, 1) := by decide +kernel
theorem s_Body_push : ab_Stat y_Body_push 1 := ⟨(k5 217 rfl rfl), (k1 8 rfl rfl), ⟨by decide, by decide⟩, by decide +kernel⟩
theorem i_Body_push : Cond.instanceMethod y_Body_push.1 ∈ ab_T := (k5 216 rfl rfl)
theorem v_Body_push : Cond.selects "WorldEngine$Body" y_Body_push.1 y_Body_push.1 ∈ ab_T := ab_s (List.mem_of_getElem? (i := 42) rfl) rfl
def F_Body_push (N : Nat) (p0 : Nat) (p1 : Int32) (H : Hp) : Option (Unit × Hp) :=
    ck (H.sh[p0]? = some (6, 0)) <|
    rf (H.P p0 1) fun a2 =>
    ck (H.sh[a2]? = some (4, 0)) <|
    bC (F_Program_add N a2 (30 : Int32) H) fun v6 H7 =>
    rf (H7.P p0 1) fun a8 =>
    ck (H7.sh[a8]? = some (4, 0)) <|
    bC (F_Program_add N a8 p1 H7) fun v12 H13 =>
    some ((), H13)
set_option maxRecDepth 20000 in
set_option maxHeartbeats 2000000 in
theorem m_Body_push {N : Nat} {p0 : Nat} {p1 : Int32} {H : Hp} {r : Unit × Hp} (hF : F_Body_push N p0 p1 H = some r) : Sa H r.2 := by
  unfold F_Body_push at hF
  have hm := Sa.rf H
  obtain ⟨q14, hG⟩ := ck_s hF; clear hF
  obtain ⟨a15, e16, hF⟩ := rf_s hG; clear hG
  obtain ⟨q17, hG⟩ := ck_s hF; clear hF
  obtain ⟨v19, H20, z18, hF⟩ := bC_s hG; clear hG
  replace hm : Sa H H20 := hm.tr (m_Program_add z18)
  obtain ⟨a21, e22, hG⟩ := rf_s hF; clear hF
  obtain ⟨q23, hF⟩ := ck_s hG; clear hG
  obtain ⟨v25, H26, z24, hG⟩ := bC_s hF; clear hF
  replace hm : Sa H H26 := hm.tr (m_Program_add z24)
  have hr := Option.some.inj hG; subst hr
  exact hm
set_option maxRecDepth 20000 in
set_option maxHeartbeats 2000000 in
theorem k_Body_push {N : Nat} {p0 : Nat} {p1 : Int32} {H : Hp} {r : Unit × Hp} (hF : F_Body_push N p0 p1 H = some r) : ab_M y_Body_push { frames := 1, cells := 0, slots := 0, locals := 21 } [.ref p0, .int p1] (hpw H) (po (.returned none) r.2) := by
  unfold F_Body_push at hF
  refine ab_of2 (lv := [some (.ref p0), some (.int p1)]) 0 rfl rfl (Nat.le_of_ble_eq_true rfl) ?_
  refine ab_aload_n d_Body_push_0 rfl rfl rfl ?_
  obtain ⟨q1, hG⟩ := ck_s hF; clear hF
  obtain ⟨a2, e3, hF⟩ := rf_s hG; clear hG
  refine hp_getR (f := 1) d_Body_push_1 q1 (by decide) rfl (by decide) (k1 158 rfl rfl) rfl e3 ?_
  refine ab_bipush (v := 30) d_Body_push_4 (by decide) ?_
  obtain ⟨q4, hG⟩ := ck_s hF; clear hF
  obtain ⟨v6, H7, z5, hF⟩ := bC_s hG; clear hG
  refine hp_callV_a (v := .int v6) (H1 := H7) (As := [.int 30]) (rest := []) d_Body_push_6 (k_Program_add z5) (ab_mkC s_Program_add (Nat.le_of_ble_eq_true rfl) (Nat.le_of_ble_eq_true rfl) (Nat.le_refl 0) (Nat.le_refl 0)) (k5 117 rfl rfl) i_Program_add v_Program_add q4 (by decide) rfl rfl (Nat.le_of_ble_eq_true rfl) ?_
  have s_1 : Sa H H7 := (m_Program_add z5)
  refine ab_pop d_Body_push_9 rfl ?_
  refine ab_aload_n d_Body_push_10 rfl rfl rfl ?_
  obtain ⟨a8, e9, hG⟩ := rf_s hF; clear hF
  refine hp_getR (f := 1) d_Body_push_11 (by rw [(s_1).1]; exact q1) (by decide) rfl (by decide) (k1 158 rfl rfl) rfl e9 ?_
  refine ab_iload_n d_Body_push_14 rfl rfl ?_
  obtain ⟨q10, hF⟩ := ck_s hG; clear hG
  rw [(s_1).1] at q10
  obtain ⟨v12, H13, z11, hG⟩ := bC_s hF; clear hF
  refine hp_callV_a (v := .int v12) (H1 := H13) (As := [.int p1]) (rest := []) d_Body_push_15 (k_Program_add z11) (ab_mkC s_Program_add (Nat.le_of_ble_eq_true rfl) (Nat.le_of_ble_eq_true rfl) (Nat.le_refl 0) (Nat.le_refl 0)) (k5 117 rfl rfl) i_Program_add v_Program_add (by rw [(s_1).1]; exact q10) (by decide) rfl rfl (Nat.le_of_ble_eq_true rfl) ?_
  have s_2 : Sa H H13 := (s_1).tr (m_Program_add z11)
  refine ab_pop d_Body_push_18 rfl ?_
  exact ab_vret d_Body_push_19 rfl (Nat.le_refl _) (Nat.le_refl _) (by have hr := Option.some.inj hG; subst hr; exact ⟨rfl, rfl⟩)
