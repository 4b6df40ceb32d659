def y_MText_named : ab_Y := (⟨"WorldEngineModel$Text", "named", "()I"⟩, prog_16_method_70_code, 9, (some FieldType.int), [])
theorem d_MText_named_0 : decode y_MText_named.2.1 0 = .ok (.aload_n 0, 1) := by decide +kernel
theorem d_MText_named_1 : decode y_MText_named.2.1 1 = .ok (.invokevirtual 240, 3) := by decide +kernel
theorem d_MText_named_4 : decode y_MText_named.2.1 4 = .ok (.istore_n 1, 1) := by decide +kernel
theorem d_MText_named_5 : decode y_MText_named.2.1 5 = .ok (.aload_n 0, 1) := by decide +kernel
theorem d_MText_named_6 : decode y_MText_named.2.1 6 = .ok (.iload_n 1, 1) := by decide +kernel
theorem d_MText_named_7 : decode y_MText_named.2.1 7 = .ok (.invokevirtual 287, 3) := by decide +kernel
theorem d_MText_named_10 : decode y_MText_named.2.1 10 = .ok (.istore_n 2, 1) := by decide +kernel
theorem d_MText_named_11 : decode y_MText_named.2.1 11 = .ok (.aload_n 0, 1) := by decide +kernel
theorem d_MText_named_12 : decode y_MText_named.2.1 12 = .ok (.getfield 185, 3) := by decide +kernel
theorem d_MText_named_15 : decode y_MText_named.2.1 15 = .ok (.ifCond .le 5, 3) := by decide +kernel
theorem d_MText_named_18 : decode y_MText_named.2.1 18 = .ok (.iconst 0, 1) := by decide +kernel
theorem d_MText_named_19 : decode y_MText_named.2.1 19 = .ok (.ireturn, 1) := by decide +kernel
theorem d_MText_named_20 : decode y_MText_named.2.1 20 = .ok (.aload_n 0, 1) := by decide +kernel
theorem d_MText_named_21 : decode y_MText_named.2.1 21 = .ok (.iload_n 1, 1) := by decide +kernel
theorem d_MText_named_22 : decode y_MText_named.2.1 22 = .ok (.invokevirtual 284, 3) := by decide +kernel
theorem d_MText_named_25 : decode y_MText_named.2.1 25 = .ok (.istore_n 3, 1) := by decide +kernel
theorem d_MText_named_26 : decode y_MText_named.2.1 26 = .ok (.aload_n 0, 1) := by decide +kernel
theorem d_MText_named_27 : decode y_MText_named.2.1 27 = .ok (.bipush 46, 2) := by decide +kernel
theorem d_MText_named_29 : decode y_MText_named.2.1 29 = .ok (.invokevirtual 194, 3) := by decide +kernel
theorem d_MText_named_32 : decode y_MText_named.2.1 32 = .ok (.istore 4, 2) := by decide +kernel
theorem d_MText_named_34 : decode y_MText_named.2.1 34 = .ok (.iload_n 2, 1) := by decide +kernel
theorem d_MText_named_35 : decode y_MText_named.2.1 35 = .ok (.iconst 1, 1) := by decide +kernel
theorem d_MText_named_36 : decode y_MText_named.2.1 36 = .ok (.if_icmp .ne 7, 3) := by decide +kernel
theorem d_MText_named_39 : decode y_MText_named.2.1 39 = .ok (.iload_n 3, 1) := by decide +kernel
theorem d_MText_named_40 : decode y_MText_named.2.1 40 = .ok (.goto 13, 3) := by decide +kernel
theorem d_MText_named_43 : decode y_MText_named.2.1 43 = .ok (.aload_n 0, 1) := by decide +kernel
theorem d_MText_named_44 : decode y_MText_named.2.1 44 = .ok (.getfield 41, 3) := by decide +kernel
theorem d_MText_named_47 : decode y_MText_named.2.1 47 = .ok (.aload_n 0, 1) := by decide +kernel
theorem d_MText_named_48 : decode y_MText_named.2.1 48 = .ok (.iload_n 1, 1) := by decide +kernel
theorem d_MText_named_49 : decode y_MText_named.2.1 49 = .ok (.invokevirtual 243, 3) := by decide +kernel
theorem d_MText_named_52 : decode y_MText_named.2.1 52 = .ok (.iaload, 1) := by decide +kernel
theorem d_MText_named_53 : decode y_MText_named.2.1 53 = .ok (.istore 5, 2) := by decide +kernel
theorem d_MText_named_55 : decode y_MText_named.2.1 55 = .ok (.iload_n 2, 1) := by decide +kernel
theorem d_MText_named_56 : decode y_MText_named.2.1 56 = .ok (.iconst 1, 1) := by decide +kernel
theorem d_MText_named_57 : decode y_MText_named.2.1 57 = .ok (.if_icmp .ne 26, 3) := by decide +kernel
theorem d_MText_named_60 : decode y_MText_named.2.1 60 = .ok (.iload 4, 2) := by decide +kernel
theorem d_MText_named_62 : decode y_MText_named.2.1 62 = .ok (.ifCond .eq 13, 3) := by decide +kernel
theorem d_MText_named_65 : decode y_MText_named.2.1 65 = .ok (.aload_n 0, 1) := by decide +kernel
theorem d_MText_named_66 : decode y_MText_named.2.1 66 = .ok (.getfield 98, 3) := by decide +kernel
theorem d_MText_named_69 : decode y_MText_named.2.1 69 = .ok (.iload_n 3, 1) := by decide +kernel
theorem d_MText_named_70 : decode y_MText_named.2.1 70 = .ok (.iaload, 1) := by decide +kernel
theorem d_MText_named_71 : decode y_MText_named.2.1 71 = .ok (.iconst 4, 1) := by decide +kernel
theorem d_MText_named_72 : decode y_MText_named.2.1 72 = .ok (.if_icmp .ne 7, 3) := by decide +kernel
theorem d_MText_named_75 : decode y_MText_named.2.1 75 = .ok (.iconst 1, 1) := by decide +kernel
theorem d_MText_named_76 : decode y_MText_named.2.1 76 = .ok (.goto 60, 3) := by decide +kernel
theorem d_MText_named_79 : decode y_MText_named.2.1 79 = .ok (.iconst 0, 1) := by decide +kernel
theorem d_MText_named_80 : decode y_MText_named.2.1 80 = .ok (.goto 56, 3) := by decide +kernel
theorem d_MText_named_83 : decode y_MText_named.2.1 83 = .ok (.iload 4, 2) := by decide +kernel
theorem d_MText_named_85 : decode y_MText_named.2.1 85 = .ok (.ifCond .eq 50, 3) := by decide +kernel
theorem d_MText_named_88 : decode y_MText_named.2.1 88 = .ok (.iload_n 2, 1) := by decide +kernel
theorem d_MText_named_89 : decode y_MText_named.2.1 89 = .ok (.iconst 2, 1) := by decide +kernel
theorem d_MText_named_90 : decode y_MText_named.2.1 90 = .ok (.if_icmp .ne 23, 3) := by decide +kernel
theorem d_MText_named_93 : decode y_MText_named.2.1 93 = .ok (.aload_n 0, 1) := by decide +kernel
theorem d_MText_named_94 : decode y_MText_named.2.1 94 = .ok (.getfield 74, 3) := by decide +kernel
theorem d_MText_named_97 : decode y_MText_named.2.1 97 = .ok (.aload_n 0, 1) := by decide +kernel
theorem d_MText_named_98 : decode y_MText_named.2.1 98 = .ok (.getfield 182, 3) := by decide +kernel
theorem d_MText_named_101 : decode y_MText_named.2.1 101 = .ok (.iconst 1, 1) := by decide +kernel
theorem d_MText_named_102 : decode y_MText_named.2.1 102 = .ok (.isub, 1) := by decide +kernel
theorem d_MText_named_103 : decode y_MText_named.2.1 103 = .ok (.iaload, 1) := by decide +kernel
theorem d_MText_named_104 : decode y_MText_named.2.1 104 = .ok (.iload 5, 2) := by decide +kernel
theorem d_MText_named_106 : decode y_MText_named.2.1 106 = .ok (.ishr, 1) := by decide +kernel
theorem d_MText_named_107 : decode y_MText_named.2.1 107 = .ok (.iconst 1, 1) := by decide +kernel
theorem d_MText_named_108 : decode y_MText_named.2.1 108 = .ok (.iand, 1) := by decide +kernel
theorem d_MText_named_109 : decode y_MText_named.2.1 109 = .ok (.iconst 1, 1) := by decide +kernel
theorem d_MText_named_110 : decode y_MText_named.2.1 110 = .ok (.if_icmp .eq 21, 3) := by decide +kernel
theorem d_MText_named_113 : decode y_MText_named.2.1 113 = .ok (.iload_n 2, 1) := by decide +kernel
theorem d_MText_named_114 : decode y_MText_named.2.1 114 = .ok (.iconst 3, 1) := by decide +kernel
theorem d_MText_named_115 : decode y_MText_named.2.1 115 = .ok (.if_icmp .ne 20, 3) := by decide +kernel
theorem d_MText_named_118 : decode y_MText_named.2.1 118 = .ok (.aload_n 0, 1) := by decide +kernel
theorem d_MText_named_119 : decode y_MText_named.2.1 119 = .ok (.getfield 296, 3) := by decide +kernel
theorem d_MText_named_122 : decode y_MText_named.2.1 122 = .ok (.iload 5, 2) := by decide +kernel
theorem d_MText_named_124 : decode y_MText_named.2.1 124 = .ok (.ishr, 1) := by decide +kernel
theorem d_MText_named_125 : decode y_MText_named.2.1 125 = .ok (.iconst 1, 1) := by decide +kernel
theorem d_MText_named_126 : decode y_MText_named.2.1 126 = .ok (.iand, 1) := by decide +kernel
theorem d_MText_named_127 : decode y_MText_named.2.1 127 = .ok (.iconst 1, 1) := by decide +kernel
theorem d_MText_named_128 : decode y_MText_named.2.1 128 = .ok (.if_icmp .ne 7, 3) := by decide +kernel
theorem d_MText_named_131 : decode y_MText_named.2.1 131 = .ok (.iconst 1, 1) := by decide +kernel
theorem d_MText_named_132 : decode y_MText_named.2.1 132 = .ok (.goto 4, 3) := by decide +kernel
theorem d_MText_named_135 : decode y_MText_named.2.1 135 = .ok (.iconst 0, 1) := by decide +kernel
theorem d_MText_named_136 : decode y_MText_named.2.1 136 = .ok (.istore 6, 2) := by decide +kernel
theorem d_MText_named_138 : decode y_MText_named.2.1 138 = .ok (.iload 6, 2) := by decide +kernel
theorem d_MText_named_140 : decode y_MText_named.2.1 140 = .ok (.ifCond .ne 9, 3) := by decide +kernel
theorem d_MText_named_143 : decode y_MText_named.2.1 143 = .ok (.aload_n 0, 1) := by decide +kernel
theorem d_MText_named_144 : decode y_MText_named.2.1 144 = .ok (.iconst 5, 1) := by decide +kernel
theorem d_MText_named_145 : decode y_MText_named.2.1 145 = .ok (.iload_n 1, 1) := by decide +kernel
theorem d_MText_named_146 : decode y_MText_named.2.1 146 = .ok (.invokevirtual 200, 3) := by decide +kernel
theorem d_MText_named_149 : decode y_MText_named.2.1 149 = .ok (.aload_n 0, 1) := by decide +kernel
theorem d_MText_named_150 : decode y_MText_named.2.1 150 = .ok (.getfield 185, 3) := by decide +kernel
theorem d_MText_named_153 : decode y_MText_named.2.1 153 = .ok (.ifCond .le 5, 3) := by decide +kernel
theorem d_MText_named_156 : decode y_MText_named.2.1 156 = .ok (.iconst 0, 1) := by decide +kernel
theorem d_MText_named_157 : decode y_MText_named.2.1 157 = .ok (.ireturn, 1) := by decide +kernel
theorem d_MText_named_158 : decode y_MText_named.2.1 158 = .ok (.aload_n 0, 1) := by decide +kernel
theorem d_MText_named_159 : decode y_MText_named.2.1 159 = .ok (.getfield 32, 3) := by decide +kernel
theorem d_MText_named_162 : decode y_MText_named.2.1 162 = .ok (.iload_n 1, 1) := by decide +kernel
theorem d_MText_named_163 : decode y_MText_named.2.1 163 = .ok (.iload 5, 2) := by decide +kernel
theorem d_MText_named_165 : decode y_MText_named.2.1 165 = .ok (.iastore, 1) := by decide +kernel
theorem d_MText_named_166 : decode y_MText_named.2.1 166 = .ok (.aload_n 0, 1) := by decide +kernel
theorem d_MText_named_167 : decode y_MText_named.2.1 167 = .ok (.getfield 25, 3) := by decide +kernel
theorem d_MText_named_170 : decode y_MText_named.2.1 170 = .ok (.iload_n 1, 1) := by decide +kernel
theorem d_MText_named_171 : decode y_MText_named.2.1 171 = .ok (.iload_n 2, 1) := by decide +kernel
theorem d_MText_named_172 : decode y_MText_named.2.1 172 = .ok (.iastore, 1) := by decide +kernel
theorem d_MText_named_173 : decode y_MText_named.2.1 173 = .ok (.iload 4, 2) := by decide +kernel
theorem d_MText_named_175 : decode y_MText_named.2.1 175 = .ok (.ifCond .ne 10, 3) := by decide +kernel
theorem d_MText_named_178 : decode y_MText_named.2.1 178 = .ok (.aload_n 0, 1) := by decide +kernel
theorem d_MText_named_179 : decode y_MText_named.2.1 179 = .ok (.getfield 98, 3) := by decide +kernel
theorem d_MText_named_182 : decode y_MText_named.2.1 182 = .ok (.iload_n 3, 1) := by decide +kernel
theorem d_MText_named_183 : decode y_MText_named.2.1 183 = .ok (.iaload, 1) := by decide +kernel
theorem d_MText_named_184 : decode y_MText_named.2.1 184 = .ok (.ireturn, 1) := by decide +kernel
theorem d_MText_named_185 : decode y_MText_named.2.1 185 = .ok (.aload_n 0, 1) := by decide +kernel
theorem d_MText_named_186 : decode y_MText_named.2.1 186 = .ok (.bipush 46, 2) := by decide +kernel
theorem d_MText_named_188 : decode y_MText_named.2.1 188 = .ok (.invokevirtual 204, 3) := by decide +kernel
theorem d_MText_named_191 : decode y_MText_named.2.1 191 = .ok (.iload_n 2, 1) := by decide +kernel
theorem d_MText_named_192 : decode y_MText_named.2.1 192 = .ok (.iconst 3, 1) := by decide +kernel
theorem d_MText_named_193 : decode y_MText_named.2.1 193 = .ok (.if_icmp .ne 78, 3) := by decide +kernel
theorem d_MText_named_196 : decode y_MText_named.2.1 196 = .ok (.aload_n 0, 1) := by decide +kernel
theorem d_MText_named_197 : decode y_MText_named.2.1 197 = .ok (.invokevirtual 240, 3) := by decide +kernel
theorem d_MText_named_200 : decode y_MText_named.2.1 200 = .ok (.istore 7, 2) := by decide +kernel
theorem d_MText_named_202 : decode y_MText_named.2.1 202 = .ok (.aload_n 0, 1) := by decide +kernel
theorem d_MText_named_203 : decode y_MText_named.2.1 203 = .ok (.getfield 185, 3) := by decide +kernel
theorem d_MText_named_206 : decode y_MText_named.2.1 206 = .ok (.ifCond .ne 14, 3) := by decide +kernel
theorem d_MText_named_209 : decode y_MText_named.2.1 209 = .ok (.aload_n 0, 1) := by decide +kernel
theorem d_MText_named_210 : decode y_MText_named.2.1 210 = .ok (.iload 5, 2) := by decide +kernel
theorem d_MText_named_212 : decode y_MText_named.2.1 212 = .ok (.iload 7, 2) := by decide +kernel
theorem d_MText_named_214 : decode y_MText_named.2.1 214 = .ok (.invokevirtual 260, 3) := by decide +kernel
theorem d_MText_named_217 : decode y_MText_named.2.1 217 = .ok (.goto 4, 3) := by decide +kernel
theorem d_MText_named_220 : decode y_MText_named.2.1 220 = .ok (.iconst 0, 1) := by decide +kernel
theorem d_MText_named_221 : decode y_MText_named.2.1 221 = .ok (.istore 8, 2) := by decide +kernel
theorem d_MText_named_223 : decode y_MText_named.2.1 223 = .ok (.iload 8, 2) := by decide +kernel
theorem d_MText_named_225 : decode y_MText_named.2.1 225 = .ok (.ifCond .ge 10, 3) := by decide +kernel
theorem d_MText_named_228 : decode y_MText_named.2.1 228 = .ok (.aload_n 0, 1) := by decide +kernel
theorem d_MText_named_229 : decode y_MText_named.2.1 229 = .ok (.iconst 4, 1) := by decide +kernel
theorem d_MText_named_230 : decode y_MText_named.2.1 230 = .ok (.iload 7, 2) := by decide +kernel
theorem d_MText_named_232 : decode y_MText_named.2.1 232 = .ok (.invokevirtual 200, 3) := by decide +kernel
theorem d_MText_named_235 : decode y_MText_named.2.1 235 = .ok (.aload_n 0, 1) := by decide +kernel
theorem d_MText_named_236 : decode y_MText_named.2.1 236 = .ok (.getfield 32, 3) := by decide +kernel
theorem d_MText_named_239 : decode y_MText_named.2.1 239 = .ok (.iload 7, 2) := by decide +kernel
theorem d_MText_named_241 : decode y_MText_named.2.1 241 = .ok (.iload 8, 2) := by decide +kernel
theorem d_MText_named_243 : decode y_MText_named.2.1 243 = .ok (.iastore, 1) := by decide +kernel
theorem d_MText_named_244 : decode y_MText_named.2.1 244 = .ok (.aload_n 0, 1) := by decide +kernel
theorem d_MText_named_245 : decode y_MText_named.2.1 245 = .ok (.getfield 185, 3) := by decide +kernel
theorem d_MText_named_248 : decode y_MText_named.2.1 248 = .ok (.ifCond .ne 21, 3) := by decide +kernel
theorem d_MText_named_251 : decode y_MText_named.2.1 251 = .ok (.aload_n 0, 1) := by decide +kernel
theorem d_MText_named_252 : decode y_MText_named.2.1 252 = .ok (.getfield 62, 3) := by decide +kernel
theorem d_MText_named_255 : decode y_MText_named.2.1 255 = .ok (.iconst 4, 1) := by decide +kernel
theorem d_MText_named_256 : decode y_MText_named.2.1 256 = .ok (.iload 5, 2) := by decide +kernel
theorem d_MText_named_258 : decode y_MText_named.2.1 258 = .ok (.imul, 1) := by decide +kernel
theorem d_MText_named_259 : decode y_MText_named.2.1 259 = .ok (.iload 8, 2) := by decide +kernel
theorem d_MText_named_261 : decode y_MText_named.2.1 261 = .ok (.iadd, 1) := by decide +kernel
theorem d_MText_named_262 : decode y_MText_named.2.1 262 = .ok (.iaload, 1) := by decide +kernel
theorem d_MText_named_263 : decode y_MText_named.2.1 263 = .ok (.invokestatic 351, 3) := by decide +kernel
theorem d_MText_named_266 : decode y_MText_named.2.1 266 = .ok (.goto 4, 3) := by decide +kernel
theorem d_MText_named_269 : decode y_MText_named.2.1 269 = .ok (.iconst 0, 1) := by decide +kernel
theorem d_MText_named_270 : decode y_MText_named.2.1 270 = .ok (.ireturn, 1) := by decide +kernel
theorem d_MText_named_271 : decode y_MText_named.2.1 271 = .ok (.iload_n 2, 1) := by decide +kernel
theorem d_MText_named_272 : decode y_MText_named.2.1 272 = .ok (.iconst 1, 1) := by decide +kernel
theorem d_MText_named_273 : decode y_MText_named.2.1 273 = .ok (.if_icmp .ne 57, 3) := by decide +kernel
theorem d_MText_named_276 : decode y_MText_named.2.1 276 = .ok (.aload_n 0, 1) := by decide +kernel
theorem d_MText_named_277 : decode y_MText_named.2.1 277 = .ok (.invokevirtual 240, 3) := by decide +kernel
theorem d_MText_named_280 : decode y_MText_named.2.1 280 = .ok (.istore 7, 2) := by decide +kernel
theorem d_MText_named_282 : decode y_MText_named.2.1 282 = .ok (.aload_n 0, 1) := by decide +kernel
theorem d_MText_named_283 : decode y_MText_named.2.1 283 = .ok (.iload 7, 2) := by decide +kernel
theorem d_MText_named_285 : decode y_MText_named.2.1 285 = .ok (.iconst 2, 1) := by decide +kernel
theorem d_MText_named_286 : decode y_MText_named.2.1 286 = .ok (.invokevirtual 290, 3) := by decide +kernel
theorem d_MText_named_289 : decode y_MText_named.2.1 289 = .ok (.istore 5, 2) := by decide +kernel
theorem d_MText_named_291 : decode y_MText_named.2.1 291 = .ok (.aload_n 0, 1) := by decide +kernel
theorem d_MText_named_292 : decode y_MText_named.2.1 292 = .ok (.getfield 185, 3) := by decide +kernel
theorem d_MText_named_295 : decode y_MText_named.2.1 295 = .ok (.ifCond .ne 29, 3) := by decide +kernel
theorem d_MText_named_298 : decode y_MText_named.2.1 298 = .ok (.aload_n 0, 1) := by decide +kernel
theorem d_MText_named_299 : decode y_MText_named.2.1 299 = .ok (.getfield 83, 3) := by decide +kernel
theorem d_MText_named_302 : decode y_MText_named.2.1 302 = .ok (.aload_n 0, 1) := by decide +kernel
theorem d_MText_named_303 : decode y_MText_named.2.1 303 = .ok (.getfield 182, 3) := by decide +kernel
theorem d_MText_named_306 : decode y_MText_named.2.1 306 = .ok (.iconst 1, 1) := by decide +kernel
theorem d_MText_named_307 : decode y_MText_named.2.1 307 = .ok (.isub, 1) := by decide +kernel
theorem d_MText_named_308 : decode y_MText_named.2.1 308 = .ok (.iaload, 1) := by decide +kernel
theorem d_MText_named_309 : decode y_MText_named.2.1 309 = .ok (.iload 5, 2) := by decide +kernel
theorem d_MText_named_311 : decode y_MText_named.2.1 311 = .ok (.ishr, 1) := by decide +kernel
theorem d_MText_named_312 : decode y_MText_named.2.1 312 = .ok (.iconst 1, 1) := by decide +kernel
theorem d_MText_named_313 : decode y_MText_named.2.1 313 = .ok (.iand, 1) := by decide +kernel
theorem d_MText_named_314 : decode y_MText_named.2.1 314 = .ok (.ifCond .ne 10, 3) := by decide +kernel
theorem d_MText_named_317 : decode y_MText_named.2.1 317 = .ok (.aload_n 0, 1) := by decide +kernel
theorem d_MText_named_318 : decode y_MText_named.2.1 318 = .ok (.iconst 5, 1) := by decide +kernel
theorem d_MText_named_319 : decode y_MText_named.2.1 319 = .ok (.iload 7, 2) := by decide +kernel
theorem d_MText_named_321 : decode y_MText_named.2.1 321 = .ok (.invokevirtual 200, 3) := by decide +kernel
theorem d_MText_named_324 : decode y_MText_named.2.1 324 = .ok (.aload_n 0, 1) := by decide +kernel
theorem d_MText_named_325 : decode y_MText_named.2.1 325 = .ok (.bipush 46, 2) := by decide +kernel
theorem d_MText_named_327 : decode y_MText_named.2.1 327 = .ok (.invokevirtual 204, 3) := by decide +kernel
theorem d_MText_named_330 : decode y_MText_named.2.1 330 = .ok (.aload_n 0, 1) := by decide +kernel
theorem d_MText_named_331 : decode y_MText_named.2.1 331 = .ok (.iload 5, 2) := by decide +kernel
theorem d_MText_named_333 : decode y_MText_named.2.1 333 = .ok (.invokevirtual 348, 3) := by decide +kernel
theorem d_MText_named_336 : decode y_MText_named.2.1 336 = .ok (.istore 7, 2) := by decide +kernel
theorem d_MText_named_338 : decode y_MText_named.2.1 338 = .ok (.aload_n 0, 1) := by decide +kernel
theorem d_MText_named_339 : decode y_MText_named.2.1 339 = .ok (.getfield 185, 3) := by decide +kernel
theorem d_MText_named_342 : decode y_MText_named.2.1 342 = .ok (.ifCond .ne 16, 3) := by decide +kernel
theorem d_MText_named_345 : decode y_MText_named.2.1 345 = .ok (.aload_n 0, 1) := by decide +kernel
theorem d_MText_named_346 : decode y_MText_named.2.1 346 = .ok (.getfield 50, 3) := by decide +kernel
theorem d_MText_named_349 : decode y_MText_named.2.1 349 = .ok (.iload 7, 2) := by decide +kernel
theorem d_MText_named_351 : decode y_MText_named.2.1 351 = .ok (.iaload, 1) := by decide +kernel
theorem d_MText_named_352 : decode y_MText_named.2.1 352 = .ok (.invokestatic 351, 3) := by decide +kernel
theorem d_MText_named_355 : decode y_MText_named.2.1 355 = .ok (.goto 4, 3) := by decide +kernel
theorem d_MText_named_358 : decode y_MText_named.2.1 358 = .ok (.iconst 0, 1) := by decide +kernel
theorem d_MText_named_359 : decode y_MText_named.2.1 359 = .ok (.ireturn, 1) := by decide +kernel
theorem s_MText_named : ab_Stat y_MText_named 0 := ⟨(k11 70 rfl rfl), (k1 20 rfl rfl), ⟨by decide, by decide⟩, by decide +kernel⟩
theorem i_MText_named : Cond.instanceMethod y_MText_named.1 ∈ ab_T := (k11 69 rfl rfl)
theorem v_MText_named : Cond.selects "WorldEngineModel$Text" y_MText_named.1 y_MText_named.1 ∈ ab_T := ab_s (List.mem_of_getElem? (i := 149) rfl) rfl
def B_MText_named_330 (N : Nat) (p0 : Nat) (l5 : Int32) (H : Hp) : Option (Int32 × Hp) :=
    ck (H.sh[p0]? = some (14, 0)) <|
    bC (F_MText_memberName N p0 l5 H) fun v52 H53 =>
    bnd ((H53.D p0 9)) fun x54 =>
    if x54 = (0 : Int32) then
    rf (H53.P p0 19) fun a56 =>
    ar H53 100 a56 fun n58 =>
    ck (inb v52 n58) <|
    bnd ((H53.D a56 (v52).toNatClampNeg)) fun x61 =>
    bC (F_MText_plain N x61 H53) fun v63 H64 =>
    some (v63, H64)
    else
    some (0, H53)
set_option maxRecDepth 20000 in
set_option maxHeartbeats 2000000 in
theorem mB_MText_named_330 {N : Nat} {p0 : Nat} {l5 : Int32} {H : Hp} {r : Int32 × Hp} (hF : B_MText_named_330 N p0 l5 H = some r) : Sa H r.2 := by
  unfold B_MText_named_330 at hF
  have hm := Sa.rf H
  obtain ⟨q65, hG⟩ := ck_s hF; clear hF
  obtain ⟨v67, H68, z66, hF⟩ := bC_s hG; clear hG
  replace hm : Sa H H68 := hm.tr (m_MText_memberName z66)
  obtain ⟨x69, -, hG⟩ := bnd_g hF; clear hF
  rcases ite_s hG with ⟨q_12, hF⟩ | ⟨q_12, hF⟩
  · clear hG
    obtain ⟨a71, e72, hG⟩ := rf_s hF; clear hF
    obtain ⟨n73, q74, hF⟩ := ar_s hG; clear hG
    obtain ⟨q75, hG⟩ := ck_s hF; clear hF
    obtain ⟨x76, -, hF⟩ := bnd_g hG; clear hG
    obtain ⟨v78, H79, z77, hG⟩ := bC_s hF; clear hF
    replace hm : Sa H H79 := hm.tr (m_MText_plain z77)
    have hr := Option.some.inj hG; subst hr
    exact hm
  · clear hG
    have hr := Option.some.inj hF; subst hr
    exact hm
set_option maxRecDepth 20000 in
set_option maxHeartbeats 2000000 in
theorem kB_MText_named_330 {N : Nat} {p0 : Nat} {l5 : Int32} {H : Hp} {r : Int32 × Hp} (hF : B_MText_named_330 N p0 l5 H = some r) : ab_V y_MText_named { frames := 5, cells := 0, slots := 0, locals := 108 } (po (.returned (some (.int r.1))) r.2) 0 0 0 0 330 [some (.ref p0), none, none, none, none, some (.int l5), none, none, none] [] (hpw H) := by
  unfold B_MText_named_330 at hF
  refine ab_aload_n d_MText_named_330 rfl rfl rfl ?_
  refine ab_iload d_MText_named_331 rfl ?_
  obtain ⟨q50, hG⟩ := ck_s hF; clear hF
  obtain ⟨v52, H53, z51, hF⟩ := bC_s hG; clear hG
  refine hp_callV_a (v := .int v52) (H1 := H53) (As := [.int l5]) (rest := []) d_MText_named_333 (k_MText_memberName z51) (ab_mkC s_MText_memberName (Nat.le_of_ble_eq_true rfl) (Nat.le_of_ble_eq_true rfl) (Nat.le_refl 0) (Nat.le_refl 0)) (k11 74 rfl rfl) i_MText_memberName v_MText_memberName q50 (by decide) rfl rfl (Nat.le_of_ble_eq_true rfl) ?_
  have s_9 : Sa H H53 := (m_MText_memberName z51)
  refine ab_istore (lv' := [some (.ref p0), none, none, none, none, some (.int l5), none, some (.int v52), none]) d_MText_named_336 (by decide) rfl ?_
  refine ab_aload_n d_MText_named_338 rfl rfl rfl ?_
  refine hp_getI (f := 9) d_MText_named_339 (by rw [(s_9).1]; exact q50) (by decide) rfl (by decide) (k8 172 rfl rfl) rfl ?_
  refine ab_topi (fun x54 ex54 => ?_)
  replace hF := bnd_s ex54 hF
  refine ab_if_ne (tgt := 358) d_MText_named_342 (by decide) (fun q55 => ?_) (fun q55 => ?_)
  · rw [if_neg q55] at hF
    refine ab_iconst (v := 0) d_MText_named_358 (by decide) ?_
    exact ab_iret d_MText_named_359 rfl (Nat.le_refl _) (Nat.le_refl _) (by have hr := Option.some.inj hF; subst hr; exact ⟨rfl, rfl⟩)
  · rw [if_pos q55] at hF
    refine ab_aload_n d_MText_named_345 rfl rfl rfl ?_
    obtain ⟨a56, e57, hG⟩ := rf_s hF; clear hF
    refine hp_getR (f := 19) d_MText_named_346 (by rw [(s_9).1]; exact q50) (by decide) rfl (by decide) (k8 188 rfl rfl) rfl e57 ?_
    refine ab_iload d_MText_named_349 rfl ?_
    obtain ⟨n58, q59, hF⟩ := ar_s hG; clear hG
    rw [(s_9).1] at q59
    obtain ⟨q60, hG⟩ := ck_s hF; clear hF
    refine hp_iald d_MText_named_351 tI (by rw [(s_9).1]; exact q59) q60 ?_
    refine ab_topi (fun x61 ex61 => ?_)
    replace hG := bnd_s ex61 hG
    obtain ⟨v63, H64, z62, hF⟩ := bC_s hG; clear hG
    refine hp_callS_a (v := .int v63) (H1 := H64) (As := [.int x61]) (rest := []) d_MText_named_352 (k_MText_plain z62) (ab_mkC s_MText_plain (Nat.le_of_ble_eq_true rfl) (Nat.le_of_ble_eq_true rfl) (Nat.le_refl 0) (Nat.le_refl 0)) (k11 71 rfl rfl) t_MText_plain rfl (Nat.le_of_ble_eq_true rfl) ?_
    have s_10 : Sa H H64 := (s_9).tr (m_MText_plain z62)
    refine ab_goto (tgt := 359) d_MText_named_355 (by decide) ?_
    exact ab_iret d_MText_named_359 rfl (Nat.le_refl _) (Nat.le_refl _) (by have hr := Option.some.inj hF; subst hr; exact ⟨rfl, rfl⟩)
def B_MText_named_324 (N : Nat) (p0 : Nat) (l5 : Int32) (H : Hp) : Option (Int32 × Hp) :=
    ck (H.sh[p0]? = some (14, 0)) <|
    bC (F_MText_takes N p0 (46 : Int32) H) fun v90 H91 =>
    B_MText_named_330 N p0 l5 H91
set_option maxRecDepth 20000 in
set_option maxHeartbeats 2000000 in
theorem mB_MText_named_324 {N : Nat} {p0 : Nat} {l5 : Int32} {H : Hp} {r : Int32 × Hp} (hF : B_MText_named_324 N p0 l5 H = some r) : Sa H r.2 := by
  unfold B_MText_named_324 at hF
  have hm := Sa.rf H
  obtain ⟨q92, hG⟩ := ck_s hF; clear hF
  obtain ⟨v94, H95, z93, hF⟩ := bC_s hG; clear hG
  replace hm : Sa H H95 := hm.tr (m_MText_takes z93)
  exact hm.tr (mB_MText_named_330 hF)
set_option maxRecDepth 20000 in
set_option maxHeartbeats 2000000 in
theorem kB_MText_named_324 {N : Nat} {p0 : Nat} {l5 : Int32} {H : Hp} {r : Int32 × Hp} (hF : B_MText_named_324 N p0 l5 H = some r) : ab_V y_MText_named { frames := 5, cells := 0, slots := 0, locals := 108 } (po (.returned (some (.int r.1))) r.2) 0 0 0 0 324 [some (.ref p0), none, none, none, none, some (.int l5), none, none, none] [] (hpw H) := by
  unfold B_MText_named_324 at hF
  refine ab_aload_n d_MText_named_324 rfl rfl rfl ?_
  refine ab_bipush (v := 46) d_MText_named_325 (by decide) ?_
  obtain ⟨q88, hG⟩ := ck_s hF; clear hF
  obtain ⟨v90, H91, z89, hF⟩ := bC_s hG; clear hG
  refine hp_callV_v (H1 := H91) (As := [.int 46]) (rest := []) d_MText_named_327 (k_MText_takes z89) (ab_mkC s_MText_takes (Nat.le_of_ble_eq_true rfl) (Nat.le_of_ble_eq_true rfl) (Nat.le_refl 0) (Nat.le_refl 0)) (k10 172 rfl rfl) i_MText_takes v_MText_takes q88 (by decide) rfl rfl (Nat.le_of_ble_eq_true rfl) ?_
  have s_16 : Sa H H91 := (m_MText_takes z89)
  exact kB_MText_named_330 hF
def B_MText_named_235 (N : Nat) (p0 : Nat) (l5 : Int32) (l7 : Int32) (l8 : Int32) (H : Hp) : Option (Int32 × Hp) :=
    ck (H.sh[p0]? = some (14, 0)) <|
    rf (H.P p0 8) fun a114 =>
    ar H 100 a114 fun n116 =>
    ck (inb l7 n116) <|
    bnd (H.sD a114 (l7).toNatClampNeg l8) fun H119 =>
    bnd ((H119.D p0 9)) fun x120 =>
    if x120 = (0 : Int32) then
    rf (H119.P p0 24) fun a122 =>
    ar H119 100 a122 fun n124 =>
    ck (inb (((4 : Int32) * l5) + l8) n124) <|
    bnd ((H119.D a122 ((((4 : Int32) * l5) + l8)).toNatClampNeg)) fun x127 =>
    bC (F_MText_plain N x127 H119) fun v129 H130 =>
    some (v129, H130)
    else
    some (0, H119)
set_option maxRecDepth 20000 in
set_option maxHeartbeats 2000000 in
theorem mB_MText_named_235 {N : Nat} {p0 : Nat} {l5 : Int32} {l7 : Int32} {l8 : Int32} {H : Hp} {r : Int32 × Hp} (hF : B_MText_named_235 N p0 l5 l7 l8 H = some r) : Sa H r.2 := by
  unfold B_MText_named_235 at hF
  have hm := Sa.rf H
  obtain ⟨q131, hG⟩ := ck_s hF; clear hF
  obtain ⟨a132, e133, hF⟩ := rf_s hG; clear hG
  obtain ⟨n134, q135, hG⟩ := ar_s hF; clear hF
  obtain ⟨q136, hF⟩ := ck_s hG; clear hG
  obtain ⟨H137, eH137, hG⟩ := bnd_g hF; clear hF
  replace hm : Sa H H137 := by rw [eH137]; exact hm
  obtain ⟨x138, -, hF⟩ := bnd_g hG; clear hG
  rcases ite_s hF with ⟨q_23, hG⟩ | ⟨q_23, hG⟩
  · clear hF
    obtain ⟨a140, e141, hF⟩ := rf_s hG; clear hG
    obtain ⟨n142, q143, hG⟩ := ar_s hF; clear hF
    obtain ⟨q144, hF⟩ := ck_s hG; clear hG
    obtain ⟨x145, -, hG⟩ := bnd_g hF; clear hF
    obtain ⟨v147, H148, z146, hF⟩ := bC_s hG; clear hG
    replace hm : Sa H H148 := hm.tr (m_MText_plain z146)
    have hr := Option.some.inj hF; subst hr
    exact hm
  · clear hF
    have hr := Option.some.inj hG; subst hr
    exact hm
set_option maxRecDepth 20000 in
set_option maxHeartbeats 2000000 in
theorem kB_MText_named_235 {N : Nat} {p0 : Nat} {l5 : Int32} {l7 : Int32} {l8 : Int32} {H : Hp} {r : Int32 × Hp} (hF : B_MText_named_235 N p0 l5 l7 l8 H = some r) : ab_V y_MText_named { frames := 5, cells := 0, slots := 0, locals := 108 } (po (.returned (some (.int r.1))) r.2) 0 0 0 0 235 [some (.ref p0), none, none, none, none, some (.int l5), none, some (.int l7), some (.int l8)] [] (hpw H) := by
  unfold B_MText_named_235 at hF
  refine ab_aload_n d_MText_named_235 rfl rfl rfl ?_
  obtain ⟨q113, hG⟩ := ck_s hF; clear hF
  obtain ⟨a114, e115, hF⟩ := rf_s hG; clear hG
  refine hp_getR (f := 8) d_MText_named_236 q113 (by decide) rfl (by decide) (k8 169 rfl rfl) rfl e115 ?_
  refine ab_iload d_MText_named_239 rfl ?_
  refine ab_iload d_MText_named_241 rfl ?_
  obtain ⟨n116, q117, hG⟩ := ar_s hF; clear hF
  obtain ⟨q118, hF⟩ := ck_s hG; clear hG
  refine hp_iast d_MText_named_243 tI q117 q118 ?_
  refine hp_gen (fun H119 eH119 => ?_)
  replace hF := bnd_s eH119 hF
  have s_20 : Sa H H119 := by rw [eH119]; exact Sa.rf _
  refine ab_aload_n d_MText_named_244 rfl rfl rfl ?_
  refine hp_getI (f := 9) d_MText_named_245 (by rw [(s_20).1]; exact q113) (by decide) rfl (by decide) (k8 172 rfl rfl) rfl ?_
  refine ab_topi (fun x120 ex120 => ?_)
  replace hF := bnd_s ex120 hF
  refine ab_if_ne (tgt := 269) d_MText_named_248 (by decide) (fun q121 => ?_) (fun q121 => ?_)
  · rw [if_neg q121] at hF
    refine ab_iconst (v := 0) d_MText_named_269 (by decide) ?_
    exact ab_iret d_MText_named_270 rfl (Nat.le_refl _) (Nat.le_refl _) (by have hr := Option.some.inj hF; subst hr; exact ⟨rfl, rfl⟩)
  · rw [if_pos q121] at hF
    refine ab_aload_n d_MText_named_251 rfl rfl rfl ?_
    obtain ⟨a122, e123, hG⟩ := rf_s hF; clear hF
    refine hp_getR (f := 24) d_MText_named_252 (by rw [(s_20).1]; exact q113) (by decide) rfl (by decide) (k8 201 rfl rfl) rfl e123 ?_
    refine ab_iconst (v := 4) d_MText_named_255 (by decide) ?_
    refine ab_iload d_MText_named_256 rfl ?_
    refine ab_imul d_MText_named_258 ?_
    refine ab_iload d_MText_named_259 rfl ?_
    refine ab_iadd d_MText_named_261 ?_
    obtain ⟨n124, q125, hF⟩ := ar_s hG; clear hG
    rw [(s_20).1] at q125
    obtain ⟨q126, hG⟩ := ck_s hF; clear hF
    refine hp_iald d_MText_named_262 tI (by rw [(s_20).1]; exact q125) q126 ?_
    refine ab_topi (fun x127 ex127 => ?_)
    replace hG := bnd_s ex127 hG
    obtain ⟨v129, H130, z128, hF⟩ := bC_s hG; clear hG
    refine hp_callS_a (v := .int v129) (H1 := H130) (As := [.int x127]) (rest := []) d_MText_named_263 (k_MText_plain z128) (ab_mkC s_MText_plain (Nat.le_of_ble_eq_true rfl) (Nat.le_of_ble_eq_true rfl) (Nat.le_refl 0) (Nat.le_refl 0)) (k11 71 rfl rfl) t_MText_plain rfl (Nat.le_of_ble_eq_true rfl) ?_
    have s_21 : Sa H H130 := (s_20).tr (m_MText_plain z128)
    refine ab_goto (tgt := 270) d_MText_named_266 (by decide) ?_
    exact ab_iret d_MText_named_270 rfl (Nat.le_refl _) (Nat.le_refl _) (by have hr := Option.some.inj hF; subst hr; exact ⟨rfl, rfl⟩)
def B_MText_named_221 (N : Nat) (p0 : Nat) (l5 : Int32) (l7 : Int32) (w0 : Int32) (H : Hp) : Option (Int32 × Hp) :=
    if (0 : Int32) ≤ w0 then
    B_MText_named_235 N p0 l5 l7 w0 H
    else
    ck (H.sh[p0]? = some (14, 0)) <|
    bC (F_MText_fails N p0 (4 : Int32) l7 H) fun v151 H152 =>
    B_MText_named_235 N p0 l5 l7 w0 H152
set_option maxRecDepth 20000 in
set_option maxHeartbeats 2000000 in
theorem mB_MText_named_221 {N : Nat} {p0 : Nat} {l5 : Int32} {l7 : Int32} {w0 : Int32} {H : Hp} {r : Int32 × Hp} (hF : B_MText_named_221 N p0 l5 l7 w0 H = some r) : Sa H r.2 := by
  unfold B_MText_named_221 at hF
  have hm := Sa.rf H
  rcases ite_s hF with ⟨q_26, hG⟩ | ⟨q_26, hG⟩
  · clear hF
    exact hm.tr (mB_MText_named_235 hG)
  · clear hF
    obtain ⟨q154, hF⟩ := ck_s hG; clear hG
    obtain ⟨v156, H157, z155, hG⟩ := bC_s hF; clear hF
    replace hm : Sa H H157 := hm.tr (m_MText_fails z155)
    exact hm.tr (mB_MText_named_235 hG)
set_option maxRecDepth 20000 in
set_option maxHeartbeats 2000000 in
theorem kB_MText_named_221 {N : Nat} {p0 : Nat} {l5 : Int32} {l7 : Int32} {w0 : Int32} {H : Hp} {r : Int32 × Hp} (hF : B_MText_named_221 N p0 l5 l7 w0 H = some r) : ab_V y_MText_named { frames := 5, cells := 0, slots := 0, locals := 108 } (po (.returned (some (.int r.1))) r.2) 0 0 0 0 221 [some (.ref p0), none, none, none, none, some (.int l5), none, some (.int l7), none] [.int w0] (hpw H) := by
  unfold B_MText_named_221 at hF
  refine ab_istore (lv' := [some (.ref p0), none, none, none, none, some (.int l5), none, some (.int l7), some (.int w0)]) d_MText_named_221 (by decide) rfl ?_
  refine ab_iload d_MText_named_223 rfl ?_
  refine ab_if_ge (tgt := 235) d_MText_named_225 (by decide) (fun q112 => ?_) (fun q112 => ?_)
  · rw [if_pos q112] at hF
    exact kB_MText_named_235 hF
  · rw [if_neg q112] at hF
    refine ab_aload_n d_MText_named_228 rfl rfl rfl ?_
    refine ab_iconst (v := 4) d_MText_named_229 (by decide) ?_
    refine ab_iload d_MText_named_230 rfl ?_
    obtain ⟨q149, hG⟩ := ck_s hF; clear hF
    obtain ⟨v151, H152, z150, hF⟩ := bC_s hG; clear hG
    refine hp_callV_v (H1 := H152) (As := [.int 4, .int l7]) (rest := []) d_MText_named_232 (k_MText_fails z150) (ab_mkC s_MText_fails (Nat.le_of_ble_eq_true rfl) (Nat.le_of_ble_eq_true rfl) (Nat.le_refl 0) (Nat.le_refl 0)) (k10 160 rfl rfl) i_MText_fails v_MText_fails q149 (by decide) rfl rfl (Nat.le_of_ble_eq_true rfl) ?_
    have s_25 : Sa H H152 := (m_MText_fails z150)
    exact kB_MText_named_235 hF
def B_MText_named_149 (N : Nat) (p0 : Nat) (l1 : Int32) (l2 : Int32) (l3 : Int32) (l4 : Int32) (l5 : Int32) (H : Hp) : Option (Int32 × Hp) :=
    ck (H.sh[p0]? = some (14, 0)) <|
    bnd ((H.D p0 9)) fun x30 =>
    if x30 ≤ (0 : Int32) then
    rf (H.P p0 8) fun a32 =>
    ar H 100 a32 fun n34 =>
    ck (inb l1 n34) <|
    bnd (H.sD a32 (l1).toNatClampNeg l5) fun H37 =>
    rf (H37.P p0 6) fun a38 =>
    ar H37 100 a38 fun n40 =>
    ck (inb l1 n40) <|
    bnd (H37.sD a38 (l1).toNatClampNeg l2) fun H43 =>
    if l4 = (0 : Int32) then
    rf (H43.P p0 39) fun a161 =>
    ar H43 100 a161 fun n163 =>
    ck (inb l3 n163) <|
    bnd ((H43.D a161 (l3).toNatClampNeg)) fun x166 =>
    some (x166, H43)
    else
    bC (F_MText_takes N p0 (46 : Int32) H43) fun v46 H47 =>
    if l2 = (3 : Int32) then
    bC (F_MText_name N p0 H47) fun v108 H109 =>
    bnd ((H109.D p0 9)) fun x110 =>
    if x110 = (0 : Int32) then
    bC (F_MText_eventMemberOf N p0 l5 v108 H109) fun v159 H160 =>
    B_MText_named_221 N p0 l5 v108 v159 H160
    else
    B_MText_named_221 N p0 l5 v108 0 H109
    else
    if l2 = (1 : Int32) then
    bC (F_MText_name N p0 H47) fun v81 H82 =>
    bC (F_MText_numberOf N p0 v81 (2 : Int32) H82) fun v84 H85 =>
    bnd ((H85.D p0 9)) fun x86 =>
    if x86 = (0 : Int32) then
    rf (H85.P p0 33) fun a96 =>
    bnd ((H85.D p0 29)) fun x98 =>
    ar H85 100 a96 fun n99 =>
    ck (inb (x98 - (1 : Int32)) n99) <|
    bnd ((H85.D a96 ((x98 - (1 : Int32))).toNatClampNeg)) fun x102 =>
    if ((x102 >>> (v84 &&& 31)) &&& (1 : Int32)) = (0 : Int32) then
    bC (F_MText_fails N p0 (5 : Int32) v81 H85) fun v105 H106 =>
    B_MText_named_324 N p0 v84 H106
    else
    B_MText_named_324 N p0 v84 H85
    else
    B_MText_named_324 N p0 v84 H85
    else
    B_MText_named_330 N p0 l5 H47
    else
    some (0, H)
set_option maxRecDepth 20000 in
set_option maxHeartbeats 2000000 in
theorem mB_MText_named_149 {N : Nat} {p0 : Nat} {l1 : Int32} {l2 : Int32} {l3 : Int32} {l4 : Int32} {l5 : Int32} {H : Hp} {r : Int32 × Hp} (hF : B_MText_named_149 N p0 l1 l2 l3 l4 l5 H = some r) : Sa H r.2 := by
  unfold B_MText_named_149 at hF
  have hm := Sa.rf H
  obtain ⟨q167, hG⟩ := ck_s hF; clear hF
  obtain ⟨x168, -, hF⟩ := bnd_g hG; clear hG
  rcases ite_s hF with ⟨q_29, hG⟩ | ⟨q_29, hG⟩
  · clear hF
    obtain ⟨a170, e171, hF⟩ := rf_s hG; clear hG
    obtain ⟨n172, q173, hG⟩ := ar_s hF; clear hF
    obtain ⟨q174, hF⟩ := ck_s hG; clear hG
    obtain ⟨H175, eH175, hG⟩ := bnd_g hF; clear hF
    replace hm : Sa H H175 := by rw [eH175]; exact hm
    obtain ⟨a176, e177, hF⟩ := rf_s hG; clear hG
    obtain ⟨n178, q179, hG⟩ := ar_s hF; clear hF
    obtain ⟨q180, hF⟩ := ck_s hG; clear hG
    obtain ⟨H181, eH181, hG⟩ := bnd_g hF; clear hF
    replace hm : Sa H H181 := by rw [eH181]; exact hm
    rcases ite_s hG with ⟨q_32, hF⟩ | ⟨q_32, hF⟩
    · clear hG
      obtain ⟨a183, e184, hG⟩ := rf_s hF; clear hF
      obtain ⟨n185, q186, hF⟩ := ar_s hG; clear hG
      obtain ⟨q187, hG⟩ := ck_s hF; clear hF
      obtain ⟨x188, -, hF⟩ := bnd_g hG; clear hG
      have hr := Option.some.inj hF; subst hr
      exact hm
    · clear hG
      obtain ⟨v190, H191, z189, hG⟩ := bC_s hF; clear hF
      replace hm : Sa H H191 := hm.tr (m_MText_takes z189)
      rcases ite_s hG with ⟨q_34, hF⟩ | ⟨q_34, hF⟩
      · clear hG
        obtain ⟨v194, H195, z193, hG⟩ := bC_s hF; clear hF
        replace hm : Sa H H195 := hm.tr (m_MText_name z193)
        obtain ⟨x196, -, hF⟩ := bnd_g hG; clear hG
        rcases ite_s hF with ⟨q_36, hG⟩ | ⟨q_36, hG⟩
        · clear hF
          obtain ⟨v199, H200, z198, hF⟩ := bC_s hG; clear hG
          replace hm : Sa H H200 := hm.tr (m_MText_eventMemberOf z198)
          exact hm.tr (mB_MText_named_221 hF)
        · clear hF
          exact hm.tr (mB_MText_named_221 hG)
      · clear hG
        rcases ite_s hF with ⟨q_38, hG⟩ | ⟨q_38, hG⟩
        · clear hF
          obtain ⟨v203, H204, z202, hF⟩ := bC_s hG; clear hG
          replace hm : Sa H H204 := hm.tr (m_MText_name z202)
          obtain ⟨v206, H207, z205, hG⟩ := bC_s hF; clear hF
          replace hm : Sa H H207 := hm.tr (m_MText_numberOf z205)
          obtain ⟨x208, -, hF⟩ := bnd_g hG; clear hG
          rcases ite_s hF with ⟨q_41, hG⟩ | ⟨q_41, hG⟩
          · clear hF
            obtain ⟨a210, e211, hF⟩ := rf_s hG; clear hG
            obtain ⟨x212, -, hG⟩ := bnd_g hF; clear hF
            obtain ⟨n213, q214, hF⟩ := ar_s hG; clear hG
            obtain ⟨q215, hG⟩ := ck_s hF; clear hF
            obtain ⟨x216, -, hF⟩ := bnd_g hG; clear hG
            rcases ite_s hF with ⟨q_42, hG⟩ | ⟨q_42, hG⟩
            · clear hF
              obtain ⟨v219, H220, z218, hF⟩ := bC_s hG; clear hG
              replace hm : Sa H H220 := hm.tr (m_MText_fails z218)
              exact hm.tr (mB_MText_named_324 hF)
            · clear hF
              exact hm.tr (mB_MText_named_324 hG)
          · clear hF
            exact hm.tr (mB_MText_named_324 hG)
        · clear hF
          exact hm.tr (mB_MText_named_330 hG)
  · clear hF
    have hr := Option.some.inj hG; subst hr
    exact hm
set_option maxRecDepth 20000 in
set_option maxHeartbeats 2000000 in
theorem kB_MText_named_149 {N : Nat} {p0 : Nat} {l1 : Int32} {l2 : Int32} {l3 : Int32} {l4 : Int32} {l5 : Int32} {H : Hp} {r : Int32 × Hp} (hF : B_MText_named_149 N p0 l1 l2 l3 l4 l5 H = some r) : ab_V y_MText_named { frames := 5, cells := 0, slots := 0, locals := 108 } (po (.returned (some (.int r.1))) r.2) 0 0 0 0 149 [some (.ref p0), some (.int l1), some (.int l2), some (.int l3), some (.int l4), some (.int l5), none, none, none] [] (hpw H) := by
  unfold B_MText_named_149 at hF
  refine ab_aload_n d_MText_named_149 rfl rfl rfl ?_
  obtain ⟨q29, hG⟩ := ck_s hF; clear hF
  refine hp_getI (f := 9) d_MText_named_150 q29 (by decide) rfl (by decide) (k8 172 rfl rfl) rfl ?_
  refine ab_topi (fun x30 ex30 => ?_)
  replace hG := bnd_s ex30 hG
  refine ab_if_le (tgt := 158) d_MText_named_153 (by decide) (fun q31 => ?_) (fun q31 => ?_)
  · rw [if_pos q31] at hG
    refine ab_aload_n d_MText_named_158 rfl rfl rfl ?_
    obtain ⟨a32, e33, hF⟩ := rf_s hG; clear hG
    refine hp_getR (f := 8) d_MText_named_159 q29 (by decide) rfl (by decide) (k8 169 rfl rfl) rfl e33 ?_
    refine ab_iload_n d_MText_named_162 rfl rfl ?_
    refine ab_iload d_MText_named_163 rfl ?_
    obtain ⟨n34, q35, hG⟩ := ar_s hF; clear hF
    obtain ⟨q36, hF⟩ := ck_s hG; clear hG
    refine hp_iast d_MText_named_165 tI q35 q36 ?_
    refine hp_gen (fun H37 eH37 => ?_)
    replace hF := bnd_s eH37 hF
    have s_6 : Sa H H37 := by rw [eH37]; exact Sa.rf _
    refine ab_aload_n d_MText_named_166 rfl rfl rfl ?_
    obtain ⟨a38, e39, hG⟩ := rf_s hF; clear hF
    refine hp_getR (f := 6) d_MText_named_167 (by rw [(s_6).1]; exact q29) (by decide) rfl (by decide) (k8 166 rfl rfl) rfl e39 ?_
    refine ab_iload_n d_MText_named_170 rfl rfl ?_
    refine ab_iload_n d_MText_named_171 rfl rfl ?_
    obtain ⟨n40, q41, hF⟩ := ar_s hG; clear hG
    rw [(s_6).1] at q41
    obtain ⟨q42, hG⟩ := ck_s hF; clear hF
    refine hp_iast d_MText_named_172 tI (by rw [(s_6).1]; exact q41) q42 ?_
    refine hp_gen (fun H43 eH43 => ?_)
    replace hG := bnd_s eH43 hG
    have s_7 : Sa H H43 := by rw [eH43]; exact s_6
    refine ab_iload d_MText_named_173 rfl ?_
    refine ab_if_ne (tgt := 185) d_MText_named_175 (by decide) (fun q44 => ?_) (fun q44 => ?_)
    · rw [if_neg q44] at hG
      refine ab_aload_n d_MText_named_185 rfl rfl rfl ?_
      refine ab_bipush (v := 46) d_MText_named_186 (by decide) ?_
      obtain ⟨v46, H47, z45, hF⟩ := bC_s hG; clear hG
      refine hp_callV_v (H1 := H47) (As := [.int 46]) (rest := []) d_MText_named_188 (k_MText_takes z45) (ab_mkC s_MText_takes (Nat.le_of_ble_eq_true rfl) (Nat.le_of_ble_eq_true rfl) (Nat.le_refl 0) (Nat.le_refl 0)) (k10 172 rfl rfl) i_MText_takes v_MText_takes (by rw [(s_7).1]; exact q29) (by decide) rfl rfl (Nat.le_of_ble_eq_true rfl) ?_
      have s_8 : Sa H H47 := (s_7).tr (m_MText_takes z45)
      refine ab_iload_n d_MText_named_191 rfl rfl ?_
      refine ab_iconst (v := 3) d_MText_named_192 (by decide) ?_
      refine ab_icmp_ne (tgt := 271) d_MText_named_193 (by decide) (fun q48 => ?_) (fun q48 => ?_)
      · rw [if_neg q48] at hF
        refine ab_iload_n d_MText_named_271 rfl rfl ?_
        refine ab_iconst (v := 1) d_MText_named_272 (by decide) ?_
        refine ab_icmp_ne (tgt := 330) d_MText_named_273 (by decide) (fun q49 => ?_) (fun q49 => ?_)
        · rw [if_neg q49] at hF
          refine ab_le (lv' := [some (.ref p0), none, none, none, none, some (.int l5), none, none, none]) ⟨rfl, ⟨rfl, trivial⟩⟩ ?_
          exact kB_MText_named_330 hF
        · rw [if_pos q49] at hF
          refine ab_aload_n d_MText_named_276 rfl rfl rfl ?_
          obtain ⟨v81, H82, z80, hG⟩ := bC_s hF; clear hF
          refine hp_callV_a (v := .int v81) (H1 := H82) (As := []) (rest := []) d_MText_named_277 (k_MText_name z80) (ab_mkC s_MText_name (Nat.le_of_ble_eq_true rfl) (Nat.le_of_ble_eq_true rfl) (Nat.le_refl 0) (Nat.le_refl 0)) (k10 168 rfl rfl) i_MText_name v_MText_name (by rw [(s_8).1]; exact q29) (by decide) rfl rfl (Nat.le_of_ble_eq_true rfl) ?_
          have s_14 : Sa H H82 := (s_8).tr (m_MText_name z80)
          refine ab_istore (lv' := [some (.ref p0), some (.int l1), some (.int l2), some (.int l3), some (.int l4), some (.int l5), none, some (.int v81), none]) d_MText_named_280 (by decide) rfl ?_
          refine ab_aload_n d_MText_named_282 rfl rfl rfl ?_
          refine ab_iload d_MText_named_283 rfl ?_
          refine ab_iconst (v := 2) d_MText_named_285 (by decide) ?_
          obtain ⟨v84, H85, z83, hF⟩ := bC_s hG; clear hG
          refine hp_callV_a (v := .int v84) (H1 := H85) (As := [.int v81, .int 2]) (rest := []) d_MText_named_286 (k_MText_numberOf z83) (ab_mkC s_MText_numberOf (Nat.le_of_ble_eq_true rfl) (Nat.le_of_ble_eq_true rfl) (Nat.le_refl 0) (Nat.le_refl 0)) (k10 225 rfl rfl) i_MText_numberOf v_MText_numberOf (by rw [(s_14).1]; exact q29) (by decide) rfl rfl (Nat.le_of_ble_eq_true rfl) ?_
          have s_15 : Sa H H85 := (s_14).tr (m_MText_numberOf z83)
          refine ab_istore (lv' := [some (.ref p0), some (.int l1), some (.int l2), some (.int l3), some (.int l4), some (.int v84), none, some (.int v81), none]) d_MText_named_289 (by decide) rfl ?_
          refine ab_aload_n d_MText_named_291 rfl rfl rfl ?_
          refine hp_getI (f := 9) d_MText_named_292 (by rw [(s_15).1]; exact q29) (by decide) rfl (by decide) (k8 172 rfl rfl) rfl ?_
          refine ab_topi (fun x86 ex86 => ?_)
          replace hF := bnd_s ex86 hF
          refine ab_if_ne (tgt := 324) d_MText_named_295 (by decide) (fun q87 => ?_) (fun q87 => ?_)
          · rw [if_neg q87] at hF
            refine ab_le (lv' := [some (.ref p0), none, none, none, none, some (.int v84), none, none, none]) ⟨rfl, ⟨rfl, trivial⟩⟩ ?_
            exact kB_MText_named_324 hF
          · rw [if_pos q87] at hF
            refine ab_aload_n d_MText_named_298 rfl rfl rfl ?_
            obtain ⟨a96, e97, hG⟩ := rf_s hF; clear hF
            refine hp_getR (f := 33) d_MText_named_299 (by rw [(s_15).1]; exact q29) (by decide) rfl (by decide) (k8 217 rfl rfl) rfl e97 ?_
            refine ab_aload_n d_MText_named_302 rfl rfl rfl ?_
            refine hp_getI (f := 29) d_MText_named_303 (by rw [(s_15).1]; exact q29) (by decide) rfl (by decide) (k8 213 rfl rfl) rfl ?_
            refine ab_topi (fun x98 ex98 => ?_)
            replace hG := bnd_s ex98 hG
            refine ab_iconst (v := 1) d_MText_named_306 (by decide) ?_
            refine ab_isub d_MText_named_307 ?_
            obtain ⟨n99, q100, hF⟩ := ar_s hG; clear hG
            rw [(s_15).1] at q100
            obtain ⟨q101, hG⟩ := ck_s hF; clear hF
            refine hp_iald d_MText_named_308 tI (by rw [(s_15).1]; exact q100) q101 ?_
            refine ab_topi (fun x102 ex102 => ?_)
            replace hG := bnd_s ex102 hG
            refine ab_iload d_MText_named_309 rfl ?_
            refine ab_ishr d_MText_named_311 ?_
            refine ab_iconst (v := 1) d_MText_named_312 (by decide) ?_
            refine ab_iand d_MText_named_313 ?_
            refine ab_if_ne (tgt := 324) d_MText_named_314 (by decide) (fun q103 => ?_) (fun q103 => ?_)
            · rw [if_neg q103] at hG
              refine ab_le (lv' := [some (.ref p0), none, none, none, none, some (.int v84), none, none, none]) ⟨rfl, ⟨rfl, trivial⟩⟩ ?_
              exact kB_MText_named_324 hG
            · rw [if_pos q103] at hG
              refine ab_aload_n d_MText_named_317 rfl rfl rfl ?_
              refine ab_iconst (v := 5) d_MText_named_318 (by decide) ?_
              refine ab_iload d_MText_named_319 rfl ?_
              obtain ⟨v105, H106, z104, hF⟩ := bC_s hG; clear hG
              refine hp_callV_v (H1 := H106) (As := [.int 5, .int v81]) (rest := []) d_MText_named_321 (k_MText_fails z104) (ab_mkC s_MText_fails (Nat.le_of_ble_eq_true rfl) (Nat.le_of_ble_eq_true rfl) (Nat.le_refl 0) (Nat.le_refl 0)) (k10 160 rfl rfl) i_MText_fails v_MText_fails (by rw [(s_15).1]; exact q29) (by decide) rfl rfl (Nat.le_of_ble_eq_true rfl) ?_
              have s_18 : Sa H H106 := (s_15).tr (m_MText_fails z104)
              refine ab_le (lv' := [some (.ref p0), none, none, none, none, some (.int v84), none, none, none]) ⟨rfl, ⟨rfl, trivial⟩⟩ ?_
              exact kB_MText_named_324 hF
      · rw [if_pos q48] at hF
        refine ab_aload_n d_MText_named_196 rfl rfl rfl ?_
        obtain ⟨v108, H109, z107, hG⟩ := bC_s hF; clear hF
        refine hp_callV_a (v := .int v108) (H1 := H109) (As := []) (rest := []) d_MText_named_197 (k_MText_name z107) (ab_mkC s_MText_name (Nat.le_of_ble_eq_true rfl) (Nat.le_of_ble_eq_true rfl) (Nat.le_refl 0) (Nat.le_refl 0)) (k10 168 rfl rfl) i_MText_name v_MText_name (by rw [(s_8).1]; exact q29) (by decide) rfl rfl (Nat.le_of_ble_eq_true rfl) ?_
        have s_19 : Sa H H109 := (s_8).tr (m_MText_name z107)
        refine ab_istore (lv' := [some (.ref p0), some (.int l1), some (.int l2), some (.int l3), some (.int l4), some (.int l5), none, some (.int v108), none]) d_MText_named_200 (by decide) rfl ?_
        refine ab_aload_n d_MText_named_202 rfl rfl rfl ?_
        refine hp_getI (f := 9) d_MText_named_203 (by rw [(s_19).1]; exact q29) (by decide) rfl (by decide) (k8 172 rfl rfl) rfl ?_
        refine ab_topi (fun x110 ex110 => ?_)
        replace hG := bnd_s ex110 hG
        refine ab_if_ne (tgt := 220) d_MText_named_206 (by decide) (fun q111 => ?_) (fun q111 => ?_)
        · rw [if_neg q111] at hG
          refine ab_iconst (v := 0) d_MText_named_220 (by decide) ?_
          refine ab_le (lv' := [some (.ref p0), none, none, none, none, some (.int l5), none, some (.int v108), none]) ⟨rfl, ⟨rfl, ⟨rfl, trivial⟩⟩⟩ ?_
          exact kB_MText_named_221 hG
        · rw [if_pos q111] at hG
          refine ab_aload_n d_MText_named_209 rfl rfl rfl ?_
          refine ab_iload d_MText_named_210 rfl ?_
          refine ab_iload d_MText_named_212 rfl ?_
          obtain ⟨v159, H160, z158, hF⟩ := bC_s hG; clear hG
          refine hp_callV_a (v := .int v159) (H1 := H160) (As := [.int l5, .int v108]) (rest := []) d_MText_named_214 (k_MText_eventMemberOf z158) (ab_mkC s_MText_eventMemberOf (Nat.le_of_ble_eq_true rfl) (Nat.le_of_ble_eq_true rfl) (Nat.le_refl 0) (Nat.le_refl 0)) (k10 208 rfl rfl) i_MText_eventMemberOf v_MText_eventMemberOf (by rw [(s_19).1]; exact q29) (by decide) rfl rfl (Nat.le_of_ble_eq_true rfl) ?_
          have s_28 : Sa H H160 := (s_19).tr (m_MText_eventMemberOf z158)
          refine ab_goto (tgt := 221) d_MText_named_217 (by decide) ?_
          refine ab_le (lv' := [some (.ref p0), none, none, none, none, some (.int l5), none, some (.int v108), none]) ⟨rfl, ⟨rfl, ⟨rfl, trivial⟩⟩⟩ ?_
          exact kB_MText_named_221 hF
    · rw [if_pos q44] at hG
      refine ab_aload_n d_MText_named_178 rfl rfl rfl ?_
      obtain ⟨a161, e162, hF⟩ := rf_s hG; clear hG
      refine hp_getR (f := 39) d_MText_named_179 (by rw [(s_7).1]; exact q29) (by decide) rfl (by decide) (k8 226 rfl rfl) rfl e162 ?_
      refine ab_iload_n d_MText_named_182 rfl rfl ?_
      obtain ⟨n163, q164, hG⟩ := ar_s hF; clear hF
      rw [(s_7).1] at q164
      obtain ⟨q165, hF⟩ := ck_s hG; clear hG
      refine hp_iald d_MText_named_183 tI (by rw [(s_7).1]; exact q164) q165 ?_
      refine ab_topi (fun x166 ex166 => ?_)
      replace hF := bnd_s ex166 hF
      exact ab_iret d_MText_named_184 rfl (Nat.le_refl _) (Nat.le_refl _) (by have hr := Option.some.inj hF; subst hr; exact ⟨rfl, rfl⟩)
  · rw [if_neg q31] at hG
    refine ab_iconst (v := 0) d_MText_named_156 (by decide) ?_
    exact ab_iret d_MText_named_157 rfl (Nat.le_refl _) (Nat.le_refl _) (by have hr := Option.some.inj hG; subst hr; exact ⟨rfl, rfl⟩)
def B_MText_named_136 (N : Nat) (p0 : Nat) (l1 : Int32) (l2 : Int32) (l3 : Int32) (l4 : Int32) (l5 : Int32) (w0 : Int32) (H : Hp) : Option (Int32 × Hp) :=
    if w0 = (0 : Int32) then
    ck (H.sh[p0]? = some (14, 0)) <|
    bC (F_MText_fails N p0 (5 : Int32) l1 H) fun v223 H224 =>
    B_MText_named_149 N p0 l1 l2 l3 l4 l5 H224
    else
    B_MText_named_149 N p0 l1 l2 l3 l4 l5 H
set_option maxRecDepth 20000 in
set_option maxHeartbeats 2000000 in
theorem mB_MText_named_136 {N : Nat} {p0 : Nat} {l1 : Int32} {l2 : Int32} {l3 : Int32} {l4 : Int32} {l5 : Int32} {w0 : Int32} {H : Hp} {r : Int32 × Hp} (hF : B_MText_named_136 N p0 l1 l2 l3 l4 l5 w0 H = some r) : Sa H r.2 := by
  unfold B_MText_named_136 at hF
  have hm := Sa.rf H
  rcases ite_s hF with ⟨q_45, hG⟩ | ⟨q_45, hG⟩
  · clear hF
    obtain ⟨q226, hF⟩ := ck_s hG; clear hG
    obtain ⟨v228, H229, z227, hG⟩ := bC_s hF; clear hF
    replace hm : Sa H H229 := hm.tr (m_MText_fails z227)
    exact hm.tr (mB_MText_named_149 hG)
  · clear hF
    exact hm.tr (mB_MText_named_149 hG)
set_option maxRecDepth 20000 in
set_option maxHeartbeats 2000000 in
theorem kB_MText_named_136 {N : Nat} {p0 : Nat} {l1 : Int32} {l2 : Int32} {l3 : Int32} {l4 : Int32} {l5 : Int32} {w0 : Int32} {H : Hp} {r : Int32 × Hp} (hF : B_MText_named_136 N p0 l1 l2 l3 l4 l5 w0 H = some r) : ab_V y_MText_named { frames := 5, cells := 0, slots := 0, locals := 108 } (po (.returned (some (.int r.1))) r.2) 0 0 0 0 136 [some (.ref p0), some (.int l1), some (.int l2), some (.int l3), some (.int l4), some (.int l5), none, none, none] [.int w0] (hpw H) := by
  unfold B_MText_named_136 at hF
  refine ab_istore (lv' := [some (.ref p0), some (.int l1), some (.int l2), some (.int l3), some (.int l4), some (.int l5), some (.int w0), none, none]) d_MText_named_136 (by decide) rfl ?_
  refine ab_iload d_MText_named_138 rfl ?_
  refine ab_if_ne (tgt := 149) d_MText_named_140 (by decide) (fun q28 => ?_) (fun q28 => ?_)
  · rw [if_neg q28] at hF
    refine ab_le (lv' := [some (.ref p0), some (.int l1), some (.int l2), some (.int l3), some (.int l4), some (.int l5), none, none, none]) ⟨rfl, ⟨rfl, ⟨rfl, ⟨rfl, ⟨rfl, ⟨rfl, trivial⟩⟩⟩⟩⟩⟩ ?_
    exact kB_MText_named_149 hF
  · rw [if_pos q28] at hF
    refine ab_aload_n d_MText_named_143 rfl rfl rfl ?_
    refine ab_iconst (v := 5) d_MText_named_144 (by decide) ?_
    refine ab_iload_n d_MText_named_145 rfl rfl ?_
    obtain ⟨q221, hG⟩ := ck_s hF; clear hF
    obtain ⟨v223, H224, z222, hF⟩ := bC_s hG; clear hG
    refine hp_callV_v (H1 := H224) (As := [.int 5, .int l1]) (rest := []) d_MText_named_146 (k_MText_fails z222) (ab_mkC s_MText_fails (Nat.le_of_ble_eq_true rfl) (Nat.le_of_ble_eq_true rfl) (Nat.le_refl 0) (Nat.le_refl 0)) (k10 160 rfl rfl) i_MText_fails v_MText_fails q221 (by decide) rfl rfl (Nat.le_of_ble_eq_true rfl) ?_
    have s_44 : Sa H H224 := (m_MText_fails z222)
    refine ab_le (lv' := [some (.ref p0), some (.int l1), some (.int l2), some (.int l3), some (.int l4), some (.int l5), none, none, none]) ⟨rfl, ⟨rfl, ⟨rfl, ⟨rfl, ⟨rfl, ⟨rfl, trivial⟩⟩⟩⟩⟩⟩ ?_
    exact kB_MText_named_149 hF
def B_MText_named_135 (N : Nat) (p0 : Nat) (l1 : Int32) (l2 : Int32) (l3 : Int32) (l4 : Int32) (l5 : Int32) (H : Hp) : Option (Int32 × Hp) :=
    B_MText_named_136 N p0 l1 l2 l3 l4 l5 0 H
set_option maxRecDepth 20000 in
set_option maxHeartbeats 2000000 in
theorem mB_MText_named_135 {N : Nat} {p0 : Nat} {l1 : Int32} {l2 : Int32} {l3 : Int32} {l4 : Int32} {l5 : Int32} {H : Hp} {r : Int32 × Hp} (hF : B_MText_named_135 N p0 l1 l2 l3 l4 l5 H = some r) : Sa H r.2 := by
  unfold B_MText_named_135 at hF
  have hm := Sa.rf H
  exact hm.tr (mB_MText_named_136 hF)
set_option maxRecDepth 20000 in
set_option maxHeartbeats 2000000 in
theorem kB_MText_named_135 {N : Nat} {p0 : Nat} {l1 : Int32} {l2 : Int32} {l3 : Int32} {l4 : Int32} {l5 : Int32} {H : Hp} {r : Int32 × Hp} (hF : B_MText_named_135 N p0 l1 l2 l3 l4 l5 H = some r) : ab_V y_MText_named { frames := 5, cells := 0, slots := 0, locals := 108 } (po (.returned (some (.int r.1))) r.2) 0 0 0 0 135 [some (.ref p0), some (.int l1), some (.int l2), some (.int l3), some (.int l4), some (.int l5), none, none, none] [] (hpw H) := by
  unfold B_MText_named_135 at hF
  refine ab_iconst (v := 0) d_MText_named_135 (by decide) ?_
  exact kB_MText_named_136 hF
def B_MText_named_131 (N : Nat) (p0 : Nat) (l1 : Int32) (l2 : Int32) (l3 : Int32) (l4 : Int32) (l5 : Int32) (H : Hp) : Option (Int32 × Hp) :=
    B_MText_named_136 N p0 l1 l2 l3 l4 l5 1 H
set_option maxRecDepth 20000 in
set_option maxHeartbeats 2000000 in
theorem mB_MText_named_131 {N : Nat} {p0 : Nat} {l1 : Int32} {l2 : Int32} {l3 : Int32} {l4 : Int32} {l5 : Int32} {H : Hp} {r : Int32 × Hp} (hF : B_MText_named_131 N p0 l1 l2 l3 l4 l5 H = some r) : Sa H r.2 := by
  unfold B_MText_named_131 at hF
  have hm := Sa.rf H
  exact hm.tr (mB_MText_named_136 hF)
set_option maxRecDepth 20000 in
set_option maxHeartbeats 2000000 in
theorem kB_MText_named_131 {N : Nat} {p0 : Nat} {l1 : Int32} {l2 : Int32} {l3 : Int32} {l4 : Int32} {l5 : Int32} {H : Hp} {r : Int32 × Hp} (hF : B_MText_named_131 N p0 l1 l2 l3 l4 l5 H = some r) : ab_V y_MText_named { frames := 5, cells := 0, slots := 0, locals := 108 } (po (.returned (some (.int r.1))) r.2) 0 0 0 0 131 [some (.ref p0), some (.int l1), some (.int l2), some (.int l3), some (.int l4), some (.int l5), none, none, none] [] (hpw H) := by
  unfold B_MText_named_131 at hF
  refine ab_iconst (v := 1) d_MText_named_131 (by decide) ?_
  refine ab_goto (tgt := 136) d_MText_named_132 (by decide) ?_
  exact kB_MText_named_136 hF
def B_MText_named_113 (N : Nat) (p0 : Nat) (l1 : Int32) (l2 : Int32) (l3 : Int32) (l4 : Int32) (l5 : Int32) (H : Hp) : Option (Int32 × Hp) :=
    if l2 = (3 : Int32) then
    ck (H.sh[p0]? = some (14, 0)) <|
    bnd ((H.D p0 42)) fun x233 =>
    if ((x233 >>> (l5 &&& 31)) &&& (1 : Int32)) = (1 : Int32) then
    B_MText_named_131 N p0 l1 l2 l3 l4 l5 H
    else
    B_MText_named_135 N p0 l1 l2 l3 l4 l5 H
    else
    B_MText_named_135 N p0 l1 l2 l3 l4 l5 H
set_option maxRecDepth 20000 in
set_option maxHeartbeats 2000000 in
theorem mB_MText_named_113 {N : Nat} {p0 : Nat} {l1 : Int32} {l2 : Int32} {l3 : Int32} {l4 : Int32} {l5 : Int32} {H : Hp} {r : Int32 × Hp} (hF : B_MText_named_113 N p0 l1 l2 l3 l4 l5 H = some r) : Sa H r.2 := by
  unfold B_MText_named_113 at hF
  have hm := Sa.rf H
  rcases ite_s hF with ⟨q_47, hG⟩ | ⟨q_47, hG⟩
  · clear hF
    obtain ⟨q236, hF⟩ := ck_s hG; clear hG
    obtain ⟨x237, -, hG⟩ := bnd_g hF; clear hF
    rcases ite_s hG with ⟨q_48, hF⟩ | ⟨q_48, hF⟩
    · clear hG
      exact hm.tr (mB_MText_named_131 hF)
    · clear hG
      exact hm.tr (mB_MText_named_135 hF)
  · clear hF
    exact hm.tr (mB_MText_named_135 hG)
set_option maxRecDepth 20000 in
set_option maxHeartbeats 2000000 in
theorem kB_MText_named_113 {N : Nat} {p0 : Nat} {l1 : Int32} {l2 : Int32} {l3 : Int32} {l4 : Int32} {l5 : Int32} {H : Hp} {r : Int32 × Hp} (hF : B_MText_named_113 N p0 l1 l2 l3 l4 l5 H = some r) : ab_V y_MText_named { frames := 5, cells := 0, slots := 0, locals := 108 } (po (.returned (some (.int r.1))) r.2) 0 0 0 0 113 [some (.ref p0), some (.int l1), some (.int l2), some (.int l3), some (.int l4), some (.int l5), none, none, none] [] (hpw H) := by
  unfold B_MText_named_113 at hF
  refine ab_iload_n d_MText_named_113 rfl rfl ?_
  refine ab_iconst (v := 3) d_MText_named_114 (by decide) ?_
  refine ab_icmp_ne (tgt := 135) d_MText_named_115 (by decide) (fun q231 => ?_) (fun q231 => ?_)
  · rw [if_neg q231] at hF
    exact kB_MText_named_135 hF
  · rw [if_pos q231] at hF
    refine ab_aload_n d_MText_named_118 rfl rfl rfl ?_
    obtain ⟨q232, hG⟩ := ck_s hF; clear hF
    refine hp_getI (f := 42) d_MText_named_119 q232 (by decide) rfl (by decide) (k8 229 rfl rfl) rfl ?_
    refine ab_topi (fun x233 ex233 => ?_)
    replace hG := bnd_s ex233 hG
    refine ab_iload d_MText_named_122 rfl ?_
    refine ab_ishr d_MText_named_124 ?_
    refine ab_iconst (v := 1) d_MText_named_125 (by decide) ?_
    refine ab_iand d_MText_named_126 ?_
    refine ab_iconst (v := 1) d_MText_named_127 (by decide) ?_
    refine ab_icmp_ne (tgt := 135) d_MText_named_128 (by decide) (fun q234 => ?_) (fun q234 => ?_)
    · rw [if_neg q234] at hG
      exact kB_MText_named_135 hG
    · rw [if_pos q234] at hG
      exact kB_MText_named_131 hG
def B_MText_named_75 (N : Nat) (p0 : Nat) (l1 : Int32) (l2 : Int32) (l3 : Int32) (l4 : Int32) (l5 : Int32) (H : Hp) : Option (Int32 × Hp) :=
    B_MText_named_136 N p0 l1 l2 l3 l4 l5 1 H
set_option maxRecDepth 20000 in
set_option maxHeartbeats 2000000 in
theorem mB_MText_named_75 {N : Nat} {p0 : Nat} {l1 : Int32} {l2 : Int32} {l3 : Int32} {l4 : Int32} {l5 : Int32} {H : Hp} {r : Int32 × Hp} (hF : B_MText_named_75 N p0 l1 l2 l3 l4 l5 H = some r) : Sa H r.2 := by
  unfold B_MText_named_75 at hF
  have hm := Sa.rf H
  exact hm.tr (mB_MText_named_136 hF)
set_option maxRecDepth 20000 in
set_option maxHeartbeats 2000000 in
theorem kB_MText_named_75 {N : Nat} {p0 : Nat} {l1 : Int32} {l2 : Int32} {l3 : Int32} {l4 : Int32} {l5 : Int32} {H : Hp} {r : Int32 × Hp} (hF : B_MText_named_75 N p0 l1 l2 l3 l4 l5 H = some r) : ab_V y_MText_named { frames := 5, cells := 0, slots := 0, locals := 108 } (po (.returned (some (.int r.1))) r.2) 0 0 0 0 75 [some (.ref p0), some (.int l1), some (.int l2), some (.int l3), some (.int l4), some (.int l5), none, none, none] [] (hpw H) := by
  unfold B_MText_named_75 at hF
  refine ab_iconst (v := 1) d_MText_named_75 (by decide) ?_
  refine ab_goto (tgt := 136) d_MText_named_76 (by decide) ?_
  exact kB_MText_named_136 hF
def B_MText_named_53 (N : Nat) (p0 : Nat) (l1 : Int32) (l2 : Int32) (l3 : Int32) (l4 : Int32) (w0 : Int32) (H : Hp) : Option (Int32 × Hp) :=
    if l2 = (1 : Int32) then
    if l4 = (0 : Int32) then
    B_MText_named_75 N p0 l1 l2 l3 l4 w0 H
    else
    ck (H.sh[p0]? = some (14, 0)) <|
    rf (H.P p0 39) fun a250 =>
    ar H 100 a250 fun n252 =>
    ck (inb l3 n252) <|
    bnd ((H.D a250 (l3).toNatClampNeg)) fun x255 =>
    if x255 = (4 : Int32) then
    B_MText_named_75 N p0 l1 l2 l3 l4 w0 H
    else
    B_MText_named_136 N p0 l1 l2 l3 l4 w0 0 H
    else
    if l4 = (0 : Int32) then
    B_MText_named_135 N p0 l1 l2 l3 l4 w0 H
    else
    if l2 = (2 : Int32) then
    ck (H.sh[p0]? = some (14, 0)) <|
    rf (H.P p0 30) fun a240 =>
    bnd ((H.D p0 29)) fun x242 =>
    ar H 100 a240 fun n243 =>
    ck (inb (x242 - (1 : Int32)) n243) <|
    bnd ((H.D a240 ((x242 - (1 : Int32))).toNatClampNeg)) fun x246 =>
    if ((x246 >>> (w0 &&& 31)) &&& (1 : Int32)) = (1 : Int32) then
    B_MText_named_131 N p0 l1 l2 l3 l4 w0 H
    else
    B_MText_named_113 N p0 l1 l2 l3 l4 w0 H
    else
    B_MText_named_113 N p0 l1 l2 l3 l4 w0 H
set_option maxRecDepth 20000 in
set_option maxHeartbeats 2000000 in
theorem mB_MText_named_53 {N : Nat} {p0 : Nat} {l1 : Int32} {l2 : Int32} {l3 : Int32} {l4 : Int32} {w0 : Int32} {H : Hp} {r : Int32 × Hp} (hF : B_MText_named_53 N p0 l1 l2 l3 l4 w0 H = some r) : Sa H r.2 := by
  unfold B_MText_named_53 at hF
  have hm := Sa.rf H
  rcases ite_s hF with ⟨q_49, hG⟩ | ⟨q_49, hG⟩
  · clear hF
    rcases ite_s hG with ⟨q_50, hF⟩ | ⟨q_50, hF⟩
    · clear hG
      exact hm.tr (mB_MText_named_75 hF)
    · clear hG
      obtain ⟨q259, hG⟩ := ck_s hF; clear hF
      obtain ⟨a260, e261, hF⟩ := rf_s hG; clear hG
      obtain ⟨n262, q263, hG⟩ := ar_s hF; clear hF
      obtain ⟨q264, hF⟩ := ck_s hG; clear hG
      obtain ⟨x265, -, hG⟩ := bnd_g hF; clear hF
      rcases ite_s hG with ⟨q_51, hF⟩ | ⟨q_51, hF⟩
      · clear hG
        exact hm.tr (mB_MText_named_75 hF)
      · clear hG
        exact hm.tr (mB_MText_named_136 hF)
  · clear hF
    rcases ite_s hG with ⟨q_52, hF⟩ | ⟨q_52, hF⟩
    · clear hG
      exact hm.tr (mB_MText_named_135 hF)
    · clear hG
      rcases ite_s hF with ⟨q_53, hG⟩ | ⟨q_53, hG⟩
      · clear hF
        obtain ⟨q269, hF⟩ := ck_s hG; clear hG
        obtain ⟨a270, e271, hG⟩ := rf_s hF; clear hF
        obtain ⟨x272, -, hF⟩ := bnd_g hG; clear hG
        obtain ⟨n273, q274, hG⟩ := ar_s hF; clear hF
        obtain ⟨q275, hF⟩ := ck_s hG; clear hG
        obtain ⟨x276, -, hG⟩ := bnd_g hF; clear hF
        rcases ite_s hG with ⟨q_54, hF⟩ | ⟨q_54, hF⟩
        · clear hG
          exact hm.tr (mB_MText_named_131 hF)
        · clear hG
          exact hm.tr (mB_MText_named_113 hF)
      · clear hF
        exact hm.tr (mB_MText_named_113 hG)
set_option maxRecDepth 20000 in
set_option maxHeartbeats 2000000 in
theorem kB_MText_named_53 {N : Nat} {p0 : Nat} {l1 : Int32} {l2 : Int32} {l3 : Int32} {l4 : Int32} {w0 : Int32} {H : Hp} {r : Int32 × Hp} (hF : B_MText_named_53 N p0 l1 l2 l3 l4 w0 H = some r) : ab_V y_MText_named { frames := 5, cells := 0, slots := 0, locals := 108 } (po (.returned (some (.int r.1))) r.2) 0 0 0 0 53 [some (.ref p0), some (.int l1), some (.int l2), some (.int l3), some (.int l4), none, none, none, none] [.int w0] (hpw H) := by
  unfold B_MText_named_53 at hF
  refine ab_istore (lv' := [some (.ref p0), some (.int l1), some (.int l2), some (.int l3), some (.int l4), some (.int w0), none, none, none]) d_MText_named_53 (by decide) rfl ?_
  refine ab_iload_n d_MText_named_55 rfl rfl ?_
  refine ab_iconst (v := 1) d_MText_named_56 (by decide) ?_
  refine ab_icmp_ne (tgt := 83) d_MText_named_57 (by decide) (fun q26 => ?_) (fun q26 => ?_)
  · rw [if_neg q26] at hF
    refine ab_iload d_MText_named_83 rfl ?_
    refine ab_if_eq (tgt := 135) d_MText_named_85 (by decide) (fun q27 => ?_) (fun q27 => ?_)
    · rw [if_pos q27] at hF
      exact kB_MText_named_135 hF
    · rw [if_neg q27] at hF
      refine ab_iload_n d_MText_named_88 rfl rfl ?_
      refine ab_iconst (v := 2) d_MText_named_89 (by decide) ?_
      refine ab_icmp_ne (tgt := 113) d_MText_named_90 (by decide) (fun q230 => ?_) (fun q230 => ?_)
      · rw [if_neg q230] at hF
        exact kB_MText_named_113 hF
      · rw [if_pos q230] at hF
        refine ab_aload_n d_MText_named_93 rfl rfl rfl ?_
        obtain ⟨q239, hG⟩ := ck_s hF; clear hF
        obtain ⟨a240, e241, hF⟩ := rf_s hG; clear hG
        refine hp_getR (f := 30) d_MText_named_94 q239 (by decide) rfl (by decide) (k8 214 rfl rfl) rfl e241 ?_
        refine ab_aload_n d_MText_named_97 rfl rfl rfl ?_
        refine hp_getI (f := 29) d_MText_named_98 q239 (by decide) rfl (by decide) (k8 213 rfl rfl) rfl ?_
        refine ab_topi (fun x242 ex242 => ?_)
        replace hF := bnd_s ex242 hF
        refine ab_iconst (v := 1) d_MText_named_101 (by decide) ?_
        refine ab_isub d_MText_named_102 ?_
        obtain ⟨n243, q244, hG⟩ := ar_s hF; clear hF
        obtain ⟨q245, hF⟩ := ck_s hG; clear hG
        refine hp_iald d_MText_named_103 tI q244 q245 ?_
        refine ab_topi (fun x246 ex246 => ?_)
        replace hF := bnd_s ex246 hF
        refine ab_iload d_MText_named_104 rfl ?_
        refine ab_ishr d_MText_named_106 ?_
        refine ab_iconst (v := 1) d_MText_named_107 (by decide) ?_
        refine ab_iand d_MText_named_108 ?_
        refine ab_iconst (v := 1) d_MText_named_109 (by decide) ?_
        refine ab_icmp_eq (tgt := 131) d_MText_named_110 (by decide) (fun q247 => ?_) (fun q247 => ?_)
        · rw [if_pos q247] at hF
          exact kB_MText_named_131 hF
        · rw [if_neg q247] at hF
          exact kB_MText_named_113 hF
  · rw [if_pos q26] at hF
    refine ab_iload d_MText_named_60 rfl ?_
    refine ab_if_eq (tgt := 75) d_MText_named_62 (by decide) (fun q248 => ?_) (fun q248 => ?_)
    · rw [if_pos q248] at hF
      exact kB_MText_named_75 hF
    · rw [if_neg q248] at hF
      refine ab_aload_n d_MText_named_65 rfl rfl rfl ?_
      obtain ⟨q249, hG⟩ := ck_s hF; clear hF
      obtain ⟨a250, e251, hF⟩ := rf_s hG; clear hG
      refine hp_getR (f := 39) d_MText_named_66 q249 (by decide) rfl (by decide) (k8 226 rfl rfl) rfl e251 ?_
      refine ab_iload_n d_MText_named_69 rfl rfl ?_
      obtain ⟨n252, q253, hG⟩ := ar_s hF; clear hF
      obtain ⟨q254, hF⟩ := ck_s hG; clear hG
      refine hp_iald d_MText_named_70 tI q253 q254 ?_
      refine ab_topi (fun x255 ex255 => ?_)
      replace hF := bnd_s ex255 hF
      refine ab_iconst (v := 4) d_MText_named_71 (by decide) ?_
      refine ab_icmp_ne (tgt := 79) d_MText_named_72 (by decide) (fun q256 => ?_) (fun q256 => ?_)
      · rw [if_neg q256] at hF
        refine ab_iconst (v := 0) d_MText_named_79 (by decide) ?_
        refine ab_goto (tgt := 136) d_MText_named_80 (by decide) ?_
        exact kB_MText_named_136 hF
      · rw [if_pos q256] at hF
        exact kB_MText_named_75 hF
def F_MText_named (N : Nat) (p0 : Nat) (H : Hp) : Option (Int32 × Hp) :=
    ck (H.sh[p0]? = some (14, 0)) <|
    bC (F_MText_name N p0 H) fun v3 H4 =>
    bC (F_MText_sort N p0 v3 H4) fun v6 H7 =>
    bnd ((H7.D p0 9)) fun x8 =>
    if x8 ≤ (0 : Int32) then
    bC (F_MText_local N p0 v3 H7) fun v11 H12 =>
    bC (F_MText_is N p0 (46 : Int32) H12) fun v14 H15 =>
    if v6 = (1 : Int32) then
    B_MText_named_53 N p0 v3 v6 v11 v14 v11 H15
    else
    rf (H15.P p0 15) fun a17 =>
    bC (F_MText_index N p0 v3 H15) fun v20 H21 =>
    ar H21 100 a17 fun n22 =>
    ck (inb v20 n22) <|
    bnd ((H21.D a17 (v20).toNatClampNeg)) fun x25 =>
    B_MText_named_53 N p0 v3 v6 v11 v14 x25 H21
    else
    some (0, H7)
set_option maxRecDepth 20000 in
set_option maxHeartbeats 2000000 in
theorem m_MText_named {N : Nat} {p0 : Nat} {H : Hp} {r : Int32 × Hp} (hF : F_MText_named N p0 H = some r) : Sa H r.2 := by
  unfold F_MText_named at hF
  have hm := Sa.rf H
  obtain ⟨q278, hG⟩ := ck_s hF; clear hF
  obtain ⟨v280, H281, z279, hF⟩ := bC_s hG; clear hG
  replace hm : Sa H H281 := hm.tr (m_MText_name z279)
  obtain ⟨v283, H284, z282, hG⟩ := bC_s hF; clear hF
  replace hm : Sa H H284 := hm.tr (m_MText_sort z282)
  obtain ⟨x285, -, hF⟩ := bnd_g hG; clear hG
  rcases ite_s hF with ⟨q_57, hG⟩ | ⟨q_57, hG⟩
  · clear hF
    obtain ⟨v288, H289, z287, hF⟩ := bC_s hG; clear hG
    replace hm : Sa H H289 := hm.tr (m_MText_local z287)
    obtain ⟨v291, H292, z290, hG⟩ := bC_s hF; clear hF
    replace hm : Sa H H292 := hm.tr (m_MText_is z290)
    rcases ite_s hG with ⟨q_60, hF⟩ | ⟨q_60, hF⟩
    · clear hG
      exact hm.tr (mB_MText_named_53 hF)
    · clear hG
      obtain ⟨a294, e295, hG⟩ := rf_s hF; clear hF
      obtain ⟨v297, H298, z296, hF⟩ := bC_s hG; clear hG
      replace hm : Sa H H298 := hm.tr (m_MText_index z296)
      obtain ⟨n299, q300, hG⟩ := ar_s hF; clear hF
      obtain ⟨q301, hF⟩ := ck_s hG; clear hG
      obtain ⟨x302, -, hG⟩ := bnd_g hF; clear hF
      exact hm.tr (mB_MText_named_53 hG)
  · clear hF
    have hr := Option.some.inj hG; subst hr
    exact hm
set_option maxRecDepth 20000 in
set_option maxHeartbeats 2000000 in
theorem k_MText_named {N : Nat} {p0 : Nat} {H : Hp} {r : Int32 × Hp} (hF : F_MText_named N p0 H = some r) : ab_M y_MText_named { frames := 5, cells := 0, slots := 0, locals := 108 } [.ref p0] (hpw H) (po (.returned (some (.int r.1))) r.2) := by
  unfold F_MText_named at hF
  refine ab_of2 (lv := [some (.ref p0), none, none, none, none, none, none, none, none]) 8 rfl rfl (Nat.le_of_ble_eq_true rfl) ?_
  refine ab_aload_n d_MText_named_0 rfl rfl rfl ?_
  obtain ⟨q1, hG⟩ := ck_s hF; clear hF
  obtain ⟨v3, H4, z2, hF⟩ := bC_s hG; clear hG
  refine hp_callV_a (v := .int v3) (H1 := H4) (As := []) (rest := []) d_MText_named_1 (k_MText_name z2) (ab_mkC s_MText_name (Nat.le_of_ble_eq_true rfl) (Nat.le_of_ble_eq_true rfl) (Nat.le_refl 0) (Nat.le_refl 0)) (k10 168 rfl rfl) i_MText_name v_MText_name q1 (by decide) rfl rfl (Nat.le_of_ble_eq_true rfl) ?_
  have s_1 : Sa H H4 := (m_MText_name z2)
  refine ab_istore_n (lv' := [some (.ref p0), some (.int v3), none, none, none, none, none, none, none]) d_MText_named_4 rfl (by decide) rfl ?_
  refine ab_aload_n d_MText_named_5 rfl rfl rfl ?_
  refine ab_iload_n d_MText_named_6 rfl rfl ?_
  obtain ⟨v6, H7, z5, hG⟩ := bC_s hF; clear hF
  refine hp_callV_a (v := .int v6) (H1 := H7) (As := [.int v3]) (rest := []) d_MText_named_7 (k_MText_sort z5) (ab_mkC s_MText_sort (Nat.le_of_ble_eq_true rfl) (Nat.le_of_ble_eq_true rfl) (Nat.le_refl 0) (Nat.le_refl 0)) (k10 229 rfl rfl) i_MText_sort v_MText_sort (by rw [(s_1).1]; exact q1) (by decide) rfl rfl (Nat.le_of_ble_eq_true rfl) ?_
  have s_2 : Sa H H7 := (s_1).tr (m_MText_sort z5)
  refine ab_istore_n (lv' := [some (.ref p0), some (.int v3), some (.int v6), none, none, none, none, none, none]) d_MText_named_10 rfl (by decide) rfl ?_
  refine ab_aload_n d_MText_named_11 rfl rfl rfl ?_
  refine hp_getI (f := 9) d_MText_named_12 (by rw [(s_2).1]; exact q1) (by decide) rfl (by decide) (k8 172 rfl rfl) rfl ?_
  refine ab_topi (fun x8 ex8 => ?_)
  replace hG := bnd_s ex8 hG
  refine ab_if_le (tgt := 20) d_MText_named_15 (by decide) (fun q9 => ?_) (fun q9 => ?_)
  · rw [if_pos q9] at hG
    refine ab_aload_n d_MText_named_20 rfl rfl rfl ?_
    refine ab_iload_n d_MText_named_21 rfl rfl ?_
    obtain ⟨v11, H12, z10, hF⟩ := bC_s hG; clear hG
    refine hp_callV_a (v := .int v11) (H1 := H12) (As := [.int v3]) (rest := []) d_MText_named_22 (k_MText_local z10) (ab_mkC s_MText_local (Nat.le_of_ble_eq_true rfl) (Nat.le_of_ble_eq_true rfl) (Nat.le_refl 0) (Nat.le_refl 0)) (k10 221 rfl rfl) i_MText_local v_MText_local (by rw [(s_2).1]; exact q1) (by decide) rfl rfl (Nat.le_of_ble_eq_true rfl) ?_
    have s_3 : Sa H H12 := (s_2).tr (m_MText_local z10)
    refine ab_istore_n (lv' := [some (.ref p0), some (.int v3), some (.int v6), some (.int v11), none, none, none, none, none]) d_MText_named_25 rfl (by decide) rfl ?_
    refine ab_aload_n d_MText_named_26 rfl rfl rfl ?_
    refine ab_bipush (v := 46) d_MText_named_27 (by decide) ?_
    obtain ⟨v14, H15, z13, hG⟩ := bC_s hF; clear hF
    refine hp_callV_a (v := .int v14) (H1 := H15) (As := [.int 46]) (rest := []) d_MText_named_29 (k_MText_is z13) (ab_mkC s_MText_is (Nat.le_of_ble_eq_true rfl) (Nat.le_of_ble_eq_true rfl) (Nat.le_refl 0) (Nat.le_refl 0)) (k10 180 rfl rfl) i_MText_is v_MText_is (by rw [(s_3).1]; exact q1) (by decide) rfl rfl (Nat.le_of_ble_eq_true rfl) ?_
    have s_4 : Sa H H15 := (s_3).tr (m_MText_is z13)
    refine ab_istore (lv' := [some (.ref p0), some (.int v3), some (.int v6), some (.int v11), some (.int v14), none, none, none, none]) d_MText_named_32 (by decide) rfl ?_
    refine ab_iload_n d_MText_named_34 rfl rfl ?_
    refine ab_iconst (v := 1) d_MText_named_35 (by decide) ?_
    refine ab_icmp_ne (tgt := 43) d_MText_named_36 (by decide) (fun q16 => ?_) (fun q16 => ?_)
    · rw [if_neg q16] at hG
      refine ab_aload_n d_MText_named_43 rfl rfl rfl ?_
      obtain ⟨a17, e18, hF⟩ := rf_s hG; clear hG
      refine hp_getR (f := 15) d_MText_named_44 (by rw [(s_4).1]; exact q1) (by decide) rfl (by decide) (k8 179 rfl rfl) rfl e18 ?_
      refine ab_aload_n d_MText_named_47 rfl rfl rfl ?_
      refine ab_iload_n d_MText_named_48 rfl rfl ?_
      obtain ⟨v20, H21, z19, hG⟩ := bC_s hF; clear hF
      refine hp_callV_a (v := .int v20) (H1 := H21) (As := [.int v3]) (rest := [.ref a17]) d_MText_named_49 (k_MText_index z19) (ab_mkC s_MText_index (Nat.le_of_ble_eq_true rfl) (Nat.le_of_ble_eq_true rfl) (Nat.le_refl 0) (Nat.le_refl 0)) (k10 184 rfl rfl) i_MText_index v_MText_index (by rw [(s_4).1]; exact q1) (by decide) rfl rfl (Nat.le_of_ble_eq_true rfl) ?_
      have s_5 : Sa H H21 := (s_4).tr (m_MText_index z19)
      obtain ⟨n22, q23, hF⟩ := ar_s hG; clear hG
      rw [(s_5).1] at q23
      obtain ⟨q24, hG⟩ := ck_s hF; clear hF
      refine hp_iald d_MText_named_52 tI (by rw [(s_5).1]; exact q23) q24 ?_
      refine ab_topi (fun x25 ex25 => ?_)
      replace hG := bnd_s ex25 hG
      exact kB_MText_named_53 hG
    · rw [if_pos q16] at hG
      refine ab_iload_n d_MText_named_39 rfl rfl ?_
      refine ab_goto (tgt := 53) d_MText_named_40 (by decide) ?_
      exact kB_MText_named_53 hG
  · rw [if_neg q9] at hG
    refine ab_iconst (v := 0) d_MText_named_18 (by decide) ?_
    exact ab_iret d_MText_named_19 rfl (Nat.le_refl _) (Nat.le_refl _) (by have hr := Option.some.inj hG; subst hr; exact ⟨rfl, rfl⟩)
def y_MText_deeper : ab_Y := (⟨"WorldEngineModel$Text", "deeper", "()V"⟩, prog_16_method_42_code, 1, none, [])
theorem d_MText_deeper_0 : decode y_MText_deeper.2.1 0 = .ok (.aload_n 0, 1) := by decide +kernel
theorem d_MText_deeper_1 : decode y_MText_deeper.2.1 1 = .ok (.getfield 185, 3) := by decide +kernel
theorem d_MText_deeper_4 : decode y_MText_deeper.2.1 4 = .ok (.ifCond .ne 21, 3) := by decide +kernel
theorem d_MText_deeper_7 : decode y_MText_deeper.2.1 7 = .ok (.aload_n 0, 1) := by decide +kernel
theorem d_MText_deeper_8 : decode y_MText_deeper.2.1 8 = .ok (.getfield 293, 3) := by decide +kernel
theorem d_MText_deeper_11 : decode y_MText_deeper.2.1 11 = .ok (.bipush 20, 2) := by decide +kernel
theorem d_MText_deeper_13 : decode y_MText_deeper.2.1 13 = .ok (.if_icmp .ne 12, 3) := by decide +kernel
theorem d_MText_deeper_16 : decode y_MText_deeper.2.1 16 = .ok (.aload_n 0, 1) := by decide +kernel
theorem d_MText_deeper_17 : decode y_MText_deeper.2.1 17 = .ok (.iconst 2, 1) := by decide +kernel
theorem d_MText_deeper_18 : decode y_MText_deeper.2.1 18 = .ok (.aload_n 0, 1) := by decide +kernel
theorem d_MText_deeper_19 : decode y_MText_deeper.2.1 19 = .ok (.getfield 191, 3) := by decide +kernel
theorem d_MText_deeper_22 : decode y_MText_deeper.2.1 22 = .ok (.invokevirtual 200, 3) := by decide +kernel
theorem d_MText_deeper_25 : decode y_MText_deeper.2.1 25 = .ok (.aload_n 0, 1) := by decide +kernel
theorem d_MText_deeper_26 : decode y_MText_deeper.2.1 26 = .ok (.dup, 1) := by decide +kernel
theorem d_MText_deeper_27 : decode y_MText_deeper.2.1 27 = .ok (.getfield 293, 3) := by decide +kernel
theorem d_MText_deeper_30 : decode y_MText_deeper.2.1 30 = .ok (.iconst 1, 1) := by decide +kernel
theorem d_MText_deeper_31 : decode y_MText_deeper.2.1 31 = .ok (.iadd, 1) := by decide +kernel
theorem d_MText_deeper_32 : decode y_MText_deeper.2.1 32 = .ok (.putfield 293, 3) := by decide +kernel
theorem d_MText_deeper_35 : decode y_MText_deeper.2.1 35 = .ok (.return_, 1) := by decide +kernel
theorem s_MText_deeper : ab_Stat y_MText_deeper 0 := ⟨(k11 85 rfl rfl), (k1 20 rfl rfl), ⟨by decide, by decide⟩, by decide +kernel⟩
theorem i_MText_deeper : Cond.instanceMethod y_MText_deeper.1 ∈ ab_T := (k11 84 rfl rfl)
theorem v_MText_deeper : Cond.selects "WorldEngineModel$Text" y_MText_deeper.1 y_MText_deeper.1 ∈ ab_T := ab_s (List.mem_of_getElem? (i := 152) rfl) rfl
def B_MText_deeper_25 (N : Nat) (p0 : Nat)  (H : Hp) : Option (Unit × Hp) :=
    ck (H.sh[p0]? = some (14, 0)) <|
    bnd ((H.D p0 41)) fun x5 =>
    bnd (H.sD p0 41 (x5 + (1 : Int32))) fun H6 =>
    some ((), H6)
set_option maxRecDepth 20000 in
set_option maxHeartbeats 2000000 in
theorem mB_MText_deeper_25 {N : Nat} {p0 : Nat}  {H : Hp} {r : Unit × Hp} (hF : B_MText_deeper_25 N p0  H = some r) : Sa H r.2 := by
  unfold B_MText_deeper_25 at hF
  have hm := Sa.rf H
  obtain ⟨q7, hG⟩ := ck_s hF; clear hF
  obtain ⟨x8, -, hF⟩ := bnd_g hG; clear hG
  obtain ⟨H9, eH9, hG⟩ := bnd_g hF; clear hF
  replace hm : Sa H H9 := by rw [eH9]; exact hm
  have hr := Option.some.inj hG; subst hr
  exact hm
set_option maxRecDepth 20000 in
set_option maxHeartbeats 2000000 in
theorem kB_MText_deeper_25 {N : Nat} {p0 : Nat}  {H : Hp} {r : Unit × Hp} (hF : B_MText_deeper_25 N p0  H = some r) : ab_V y_MText_deeper { frames := 1, cells := 0, slots := 0, locals := 22 } (po (.returned none) r.2) 0 0 0 0 25 [some (.ref p0)] [] (hpw H) := by
  unfold B_MText_deeper_25 at hF
  refine ab_aload_n d_MText_deeper_25 rfl rfl rfl ?_
  refine ab_dup d_MText_deeper_26 rfl ?_
  obtain ⟨q4, hG⟩ := ck_s hF; clear hF
  refine hp_getI (f := 41) d_MText_deeper_27 q4 (by decide) rfl (by decide) (k8 228 rfl rfl) rfl ?_
  refine ab_topi (fun x5 ex5 => ?_)
  replace hG := bnd_s ex5 hG
  refine ab_iconst (v := 1) d_MText_deeper_30 (by decide) ?_
  refine ab_iadd d_MText_deeper_31 ?_
  refine hp_putI (v := x5 + (1 : Int32)) (f := 41) d_MText_deeper_32 q4 (by decide) rfl (by decide) (k8 228 rfl rfl) rfl rfl (fun _ => rfl) (fun _ => rfl) rfl ?_
  refine hp_gen (fun H6 eH6 => ?_)
  replace hG := bnd_s eH6 hG
  have s_1 : Sa H H6 := by rw [eH6]; exact Sa.rf _
  exact ab_vret d_MText_deeper_35 rfl (Nat.le_refl _) (Nat.le_refl _) (by have hr := Option.some.inj hG; subst hr; exact ⟨rfl, rfl⟩)
def F_MText_deeper (N : Nat) (p0 : Nat) (H : Hp) : Option (Unit × Hp) :=
    ck (H.sh[p0]? = some (14, 0)) <|
    bnd ((H.D p0 9)) fun x2 =>
    if x2 = (0 : Int32) then
    bnd ((H.D p0 41)) fun x10 =>
    if x10 = (20 : Int32) then
    bnd ((H.D p0 11)) fun x12 =>
    bC (F_MText_fails N p0 (2 : Int32) x12 H) fun v14 H15 =>
    B_MText_deeper_25 N p0  H15
    else
    B_MText_deeper_25 N p0  H
    else
    B_MText_deeper_25 N p0  H
set_option maxRecDepth 20000 in
set_option maxHeartbeats 2000000 in
theorem m_MText_deeper {N : Nat} {p0 : Nat} {H : Hp} {r : Unit × Hp} (hF : F_MText_deeper N p0 H = some r) : Sa H r.2 := by
  unfold F_MText_deeper at hF
  have hm := Sa.rf H
  obtain ⟨q16, hG⟩ := ck_s hF; clear hF
  obtain ⟨x17, -, hF⟩ := bnd_g hG; clear hG
  rcases ite_s hF with ⟨q_4, hG⟩ | ⟨q_4, hG⟩
  · clear hF
    obtain ⟨x19, -, hF⟩ := bnd_g hG; clear hG
    rcases ite_s hF with ⟨q_5, hG⟩ | ⟨q_5, hG⟩
    · clear hF
      obtain ⟨x21, -, hF⟩ := bnd_g hG; clear hG
      obtain ⟨v23, H24, z22, hG⟩ := bC_s hF; clear hF
      replace hm : Sa H H24 := hm.tr (m_MText_fails z22)
      exact hm.tr (mB_MText_deeper_25 hG)
    · clear hF
      exact hm.tr (mB_MText_deeper_25 hG)
  · clear hF
    exact hm.tr (mB_MText_deeper_25 hG)
set_option maxRecDepth 20000 in
set_option maxHeartbeats 2000000 in
theorem k_MText_deeper {N : Nat} {p0 : Nat} {H : Hp} {r : Unit × Hp} (hF : F_MText_deeper N p0 H = some r) : ab_M y_MText_deeper { frames := 1, cells := 0, slots := 0, locals := 22 } [.ref p0] (hpw H) (po (.returned none) r.2) := by
  unfold F_MText_deeper at hF
  refine ab_of2 (lv := [some (.ref p0)]) 0 rfl rfl (Nat.le_of_ble_eq_true rfl) ?_
  refine ab_aload_n d_MText_deeper_0 rfl rfl rfl ?_
  obtain ⟨q1, hG⟩ := ck_s hF; clear hF
  refine hp_getI (f := 9) d_MText_deeper_1 q1 (by decide) rfl (by decide) (k8 172 rfl rfl) rfl ?_
  refine ab_topi (fun x2 ex2 => ?_)
  replace hG := bnd_s ex2 hG
  refine ab_if_ne (tgt := 25) d_MText_deeper_4 (by decide) (fun q3 => ?_) (fun q3 => ?_)
  · rw [if_neg q3] at hG
    exact kB_MText_deeper_25 hG
  · rw [if_pos q3] at hG
    refine ab_aload_n d_MText_deeper_7 rfl rfl rfl ?_
    refine hp_getI (f := 41) d_MText_deeper_8 q1 (by decide) rfl (by decide) (k8 228 rfl rfl) rfl ?_
    refine ab_topi (fun x10 ex10 => ?_)
    replace hG := bnd_s ex10 hG
    refine ab_bipush (v := 20) d_MText_deeper_11 (by decide) ?_
    refine ab_icmp_ne (tgt := 25) d_MText_deeper_13 (by decide) (fun q11 => ?_) (fun q11 => ?_)
    · rw [if_neg q11] at hG
      exact kB_MText_deeper_25 hG
    · rw [if_pos q11] at hG
      refine ab_aload_n d_MText_deeper_16 rfl rfl rfl ?_
      refine ab_iconst (v := 2) d_MText_deeper_17 (by decide) ?_
      refine ab_aload_n d_MText_deeper_18 rfl rfl rfl ?_
      refine hp_getI (f := 11) d_MText_deeper_19 q1 (by decide) rfl (by decide) (k8 175 rfl rfl) rfl ?_
      refine ab_topi (fun x12 ex12 => ?_)
      replace hG := bnd_s ex12 hG
      obtain ⟨v14, H15, z13, hF⟩ := bC_s hG; clear hG
      refine hp_callV_v (H1 := H15) (As := [.int 2, .int x12]) (rest := []) d_MText_deeper_22 (k_MText_fails z13) (ab_mkC s_MText_fails (Nat.le_of_ble_eq_true rfl) (Nat.le_of_ble_eq_true rfl) (Nat.le_refl 0) (Nat.le_refl 0)) (k10 160 rfl rfl) i_MText_fails v_MText_fails q1 (by decide) rfl rfl (Nat.le_of_ble_eq_true rfl) ?_
      have s_3 : Sa H H15 := (m_MText_fails z13)
      exact kB_MText_deeper_25 hF
def y_MText_opens : ab_Y := (⟨"WorldEngineModel$Text", "opens", "()V"⟩, prog_16_method_43_code, 1, none, [])
theorem d_MText_opens_0 : decode y_MText_opens.2.1 0 = .ok (.aload_n 0, 1) := by decide +kernel
theorem d_MText_opens_1 : decode y_MText_opens.2.1 1 = .ok (.bipush 40, 2) := by decide +kernel
theorem d_MText_opens_3 : decode y_MText_opens.2.1 3 = .ok (.invokevirtual 194, 3) := by decide +kernel
theorem d_MText_opens_6 : decode y_MText_opens.2.1 6 = .ok (.ifCond .eq 7, 3) := by decide +kernel
theorem d_MText_opens_9 : decode y_MText_opens.2.1 9 = .ok (.aload_n 0, 1) := by decide +kernel
theorem d_MText_opens_10 : decode y_MText_opens.2.1 10 = .ok (.invokevirtual 308, 3) := by decide +kernel
theorem d_MText_opens_13 : decode y_MText_opens.2.1 13 = .ok (.aload_n 0, 1) := by decide +kernel
theorem d_MText_opens_14 : decode y_MText_opens.2.1 14 = .ok (.bipush 40, 2) := by decide +kernel
theorem d_MText_opens_16 : decode y_MText_opens.2.1 16 = .ok (.invokevirtual 204, 3) := by decide +kernel
theorem d_MText_opens_19 : decode y_MText_opens.2.1 19 = .ok (.return_, 1) := by decide +kernel
theorem s_MText_opens : ab_Stat y_MText_opens 0 := ⟨(k11 81 rfl rfl), (k1 20 rfl rfl), ⟨by decide, by decide⟩, by decide +kernel⟩
theorem i_MText_opens : Cond.instanceMethod y_MText_opens.1 ∈ ab_T := (k11 80 rfl rfl)
theorem v_MText_opens : Cond.selects "WorldEngineModel$Text" y_MText_opens.1 y_MText_opens.1 ∈ ab_T := ab_s (List.mem_of_getElem? (i := 151) rfl) rfl
def B_MText_opens_13 (N : Nat) (p0 : Nat)  (H : Hp) : Option (Unit × Hp) :=
    ck (H.sh[p0]? = some (14, 0)) <|
    bC (F_MText_takes N p0 (40 : Int32) H) fun v8 H9 =>
    some ((), H9)
set_option maxRecDepth 20000 in
set_option maxHeartbeats 2000000 in
theorem mB_MText_opens_13 {N : Nat} {p0 : Nat}  {H : Hp} {r : Unit × Hp} (hF : B_MText_opens_13 N p0  H = some r) : Sa H r.2 := by
  unfold B_MText_opens_13 at hF
  have hm := Sa.rf H
  obtain ⟨q10, hG⟩ := ck_s hF; clear hF
  obtain ⟨v12, H13, z11, hF⟩ := bC_s hG; clear hG
  replace hm : Sa H H13 := hm.tr (m_MText_takes z11)
  have hr := Option.some.inj hF; subst hr
  exact hm
set_option maxRecDepth 20000 in
set_option maxHeartbeats 2000000 in
theorem kB_MText_opens_13 {N : Nat} {p0 : Nat}  {H : Hp} {r : Unit × Hp} (hF : B_MText_opens_13 N p0  H = some r) : ab_V y_MText_opens { frames := 3, cells := 0, slots := 0, locals := 64 } (po (.returned none) r.2) 0 0 0 0 13 [some (.ref p0)] [] (hpw H) := by
  unfold B_MText_opens_13 at hF
  refine ab_aload_n d_MText_opens_13 rfl rfl rfl ?_
  refine ab_bipush (v := 40) d_MText_opens_14 (by decide) ?_
  obtain ⟨q6, hG⟩ := ck_s hF; clear hF
  obtain ⟨v8, H9, z7, hF⟩ := bC_s hG; clear hG
  refine hp_callV_v (H1 := H9) (As := [.int 40]) (rest := []) d_MText_opens_16 (k_MText_takes z7) (ab_mkC s_MText_takes (Nat.le_of_ble_eq_true rfl) (Nat.le_of_ble_eq_true rfl) (Nat.le_refl 0) (Nat.le_refl 0)) (k10 172 rfl rfl) i_MText_takes v_MText_takes q6 (by decide) rfl rfl (Nat.le_of_ble_eq_true rfl) ?_
  have s_2 : Sa H H9 := (m_MText_takes z7)
  exact ab_vret d_MText_opens_19 rfl (Nat.le_refl _) (Nat.le_refl _) (by have hr := Option.some.inj hF; subst hr; exact ⟨rfl, rfl⟩)
def F_MText_opens (N : Nat) (p0 : Nat) (H : Hp) : Option (Unit × Hp) :=
    ck (H.sh[p0]? = some (14, 0)) <|
    bC (F_MText_is N p0 (40 : Int32) H) fun v3 H4 =>
    if v3 = (0 : Int32) then
    B_MText_opens_13 N p0  H4
    else
    bC (F_MText_deeper N p0 H4) fun v15 H16 =>
    B_MText_opens_13 N p0  H16
set_option maxRecDepth 20000 in
set_option maxHeartbeats 2000000 in
theorem m_MText_opens {N : Nat} {p0 : Nat} {H : Hp} {r : Unit × Hp} (hF : F_MText_opens N p0 H = some r) : Sa H r.2 := by
  unfold F_MText_opens at hF
  have hm := Sa.rf H
  obtain ⟨q17, hG⟩ := ck_s hF; clear hF
  obtain ⟨v19, H20, z18, hF⟩ := bC_s hG; clear hG
  replace hm : Sa H H20 := hm.tr (m_MText_is z18)
  rcases ite_s hF with ⟨q_6, hG⟩ | ⟨q_6, hG⟩
  · clear hF
    exact hm.tr (mB_MText_opens_13 hG)
  · clear hF
    obtain ⟨v23, H24, z22, hF⟩ := bC_s hG; clear hG
    replace hm : Sa H H24 := hm.tr (m_MText_deeper z22)
    exact hm.tr (mB_MText_opens_13 hF)
set_option maxRecDepth 20000 in
set_option maxHeartbeats 2000000 in
theorem k_MText_opens {N : Nat} {p0 : Nat} {H : Hp} {r : Unit × Hp} (hF : F_MText_opens N p0 H = some r) : ab_M y_MText_opens { frames := 3, cells := 0, slots := 0, locals := 64 } [.ref p0] (hpw H) (po (.returned none) r.2) := by
  unfold F_MText_opens at hF
  refine ab_of2 (lv := [some (.ref p0)]) 0 rfl rfl (Nat.le_of_ble_eq_true rfl) ?_
  refine ab_aload_n d_MText_opens_0 rfl rfl rfl ?_
  refine ab_bipush (v := 40) d_MText_opens_1 (by decide) ?_
  obtain ⟨q1, hG⟩ := ck_s hF; clear hF
  obtain ⟨v3, H4, z2, hF⟩ := bC_s hG; clear hG
  refine hp_callV_a (v := .int v3) (H1 := H4) (As := [.int 40]) (rest := []) d_MText_opens_3 (k_MText_is z2) (ab_mkC s_MText_is (Nat.le_of_ble_eq_true rfl) (Nat.le_of_ble_eq_true rfl) (Nat.le_refl 0) (Nat.le_refl 0)) (k10 180 rfl rfl) i_MText_is v_MText_is q1 (by decide) rfl rfl (Nat.le_of_ble_eq_true rfl) ?_
  have s_1 : Sa H H4 := (m_MText_is z2)
  refine ab_if_eq (tgt := 13) d_MText_opens_6 (by decide) (fun q5 => ?_) (fun q5 => ?_)
  · rw [if_pos q5] at hF
    exact kB_MText_opens_13 hF
  · rw [if_neg q5] at hF
    refine ab_aload_n d_MText_opens_9 rfl rfl rfl ?_
    obtain ⟨v15, H16, z14, hG⟩ := bC_s hF; clear hF
    refine hp_callV_v (H1 := H16) (As := []) (rest := []) d_MText_opens_10 (k_MText_deeper z14) (ab_mkC s_MText_deeper (Nat.le_of_ble_eq_true rfl) (Nat.le_of_ble_eq_true rfl) (Nat.le_refl 0) (Nat.le_refl 0)) (k11 82 rfl rfl) i_MText_deeper v_MText_deeper (by rw [(s_1).1]; exact q1) (by decide) rfl rfl (Nat.le_of_ble_eq_true rfl) ?_
    have s_4 : Sa H H16 := (s_1).tr (m_MText_deeper z14)
    exact kB_MText_opens_13 hG
def y_MText_closes : ab_Y := (⟨"WorldEngineModel$Text", "closes", "()V"⟩, prog_16_method_44_code, 1, none, [])
theorem d_MText_closes_0 : decode y_MText_closes.2.1 0 = .ok (.aload_n 0, 1) := by decide +kernel
theorem d_MText_closes_1 : decode y_MText_closes.2.1 1 = .ok (.bipush 41, 2) := by decide +kernel
theorem d_MText_closes_3 : decode y_MText_closes.2.1 3 = .ok (.invokevirtual 204, 3) := by decide +kernel
theorem d_MText_closes_6 : decode y_MText_closes.2.1 6 = .ok (.aload_n 0, 1) := by decide +kernel
theorem d_MText_closes_7 : decode y_MText_closes.2.1 7 = .ok (.dup, 1) := by decide +kernel
theorem d_MText_closes_8 : decode y_MText_closes.2.1 8 = .ok (.getfield 293, 3) := by decide +kernel
theorem d_MText_closes_11 : decode y_MText_closes.2.1 11 = .ok (.iconst 1, 1) := by decide +kernel
theorem d_MText_closes_12 : decode y_MText_closes.2.1 12 = .ok (.isub, 1) := by decide +kernel
theorem d_MText_closes_13 : decode y_MText_closes.2.1 13 = .ok (.putfield 293, 3) := by decide +kernel
theorem d_MText_closes_16 : decode y_MText_closes.2.1 16 = .ok (.return_, 1) := by decide +kernel
theorem s_MText_closes : ab_Stat y_MText_closes 0 := ⟨(k11 89 rfl rfl), (k1 20 rfl rfl), ⟨by decide, by decide⟩, by decide +kernel⟩
theorem i_MText_closes : Cond.instanceMethod y_MText_closes.1 ∈ ab_T := (k11 88 rfl rfl)
theorem v_MText_closes : Cond.selects "WorldEngineModel$Text" y_MText_closes.1 y_MText_closes.1 ∈ ab_T := ab_s (List.mem_of_getElem? (i := 153) rfl) rfl
def F_MText_closes (N : Nat) (p0 : Nat) (H : Hp) : Option (Unit × Hp) :=
    ck (H.sh[p0]? = some (14, 0)) <|
    bC (F_MText_takes N p0 (41 : Int32) H) fun v3 H4 =>
    bnd ((H4.D p0 41)) fun x5 =>
    bnd (H4.sD p0 41 (x5 - (1 : Int32))) fun H6 =>
    some ((), H6)
set_option maxRecDepth 20000 in
set_option maxHeartbeats 2000000 in
theorem m_MText_closes {N : Nat} {p0 : Nat} {H : Hp} {r : Unit × Hp} (hF : F_MText_closes N p0 H = some r) : Sa H r.2 := by
  unfold F_MText_closes at hF
  have hm := Sa.rf H
  obtain ⟨q7, hG⟩ := ck_s hF; clear hF
  obtain ⟨v9, H10, z8, hF⟩ := bC_s hG; clear hG
  replace hm : Sa H H10 := hm.tr (m_MText_takes z8)
  obtain ⟨x11, -, hG⟩ := bnd_g hF; clear hF
  obtain ⟨H12, eH12, hF⟩ := bnd_g hG; clear hG
  replace hm : Sa H H12 := by rw [eH12]; exact hm
  have hr := Option.some.inj hF; subst hr
  exact hm
set_option maxRecDepth 20000 in
set_option maxHeartbeats 2000000 in
theorem k_MText_closes {N : Nat} {p0 : Nat} {H : Hp} {r : Unit × Hp} (hF : F_MText_closes N p0 H = some r) : ab_M y_MText_closes { frames := 3, cells := 0, slots := 0, locals := 64 } [.ref p0] (hpw H) (po (.returned none) r.2) := by
  unfold F_MText_closes at hF
  refine ab_of2 (lv := [some (.ref p0)]) 0 rfl rfl (Nat.le_of_ble_eq_true rfl) ?_
  refine ab_aload_n d_MText_closes_0 rfl rfl rfl ?_
  refine ab_bipush (v := 41) d_MText_closes_1 (by decide) ?_
  obtain ⟨q1, hG⟩ := ck_s hF; clear hF
  obtain ⟨v3, H4, z2, hF⟩ := bC_s hG; clear hG
  refine hp_callV_v (H1 := H4) (As := [.int 41]) (rest := []) d_MText_closes_3 (k_MText_takes z2) (ab_mkC s_MText_takes (Nat.le_of_ble_eq_true rfl) (Nat.le_of_ble_eq_true rfl) (Nat.le_refl 0) (Nat.le_refl 0)) (k10 172 rfl rfl) i_MText_takes v_MText_takes q1 (by decide) rfl rfl (Nat.le_of_ble_eq_true rfl) ?_
  have s_1 : Sa H H4 := (m_MText_takes z2)
  refine ab_aload_n d_MText_closes_6 rfl rfl rfl ?_
  refine ab_dup d_MText_closes_7 rfl ?_
  refine hp_getI (f := 41) d_MText_closes_8 (by rw [(s_1).1]; exact q1) (by decide) rfl (by decide) (k8 228 rfl rfl) rfl ?_
  refine ab_topi (fun x5 ex5 => ?_)
  replace hF := bnd_s ex5 hF
  refine ab_iconst (v := 1) d_MText_closes_11 (by decide) ?_
  refine ab_isub d_MText_closes_12 ?_
  refine hp_putI (v := x5 - (1 : Int32)) (f := 41) d_MText_closes_13 (by rw [(s_1).1]; exact q1) (by decide) rfl (by decide) (k8 228 rfl rfl) rfl rfl (fun _ => rfl) (fun _ => rfl) rfl ?_
  refine hp_gen (fun H6 eH6 => ?_)
  replace hF := bnd_s eH6 hF
  have s_2 : Sa H H6 := by rw [eH6]; exact s_1
  exact ab_vret d_MText_closes_16 rfl (Nat.le_refl _) (Nat.le_refl _) (by have hr := Option.some.inj hF; subst hr; exact ⟨rfl, rfl⟩)
def y_MText_reckons : ab_Y := (⟨"WorldEngineModel$Text", "reckons", "(I)Z"⟩, prog_16_method_63_code, 1, (some FieldType.boolean), [])
theorem d_MText_reckons_0 : decode y_MText_reckons.2.1 0 = .ok (.iload_n 0, 1) := by decide +kernel
theorem d_MText_reckons_1 : decode y_MText_reckons.2.1 1 = .ok (.ifCond .eq 8, 3) := by decide +kernel
theorem d_MText_reckons_4 : decode y_MText_reckons.2.1 4 = .ok (.iload_n 0, 1) := by decide +kernel
theorem d_MText_reckons_5 : decode y_MText_reckons.2.1 5 = .ok (.iconst 2, 1) := by decide +kernel
theorem d_MText_reckons_6 : decode y_MText_reckons.2.1 6 = .ok (.if_icmp .ne 7, 3) := by decide +kernel
theorem d_MText_reckons_9 : decode y_MText_reckons.2.1 9 = .ok (.iconst 1, 1) := by decide +kernel
theorem d_MText_reckons_10 : decode y_MText_reckons.2.1 10 = .ok (.goto 4, 3) := by decide +kernel
theorem d_MText_reckons_13 : decode y_MText_reckons.2.1 13 = .ok (.iconst 0, 1) := by decide +kernel
theorem d_MText_reckons_14 : decode y_MText_reckons.2.1 14 = .ok (.ireturn, 1) := by decide +kernel
theorem s_MText_reckons : ab_Stat y_MText_reckons 1 := ⟨(k11 96 rfl rfl), (k1 20 rfl rfl), ⟨by decide, by decide⟩, by decide +kernel⟩
theorem t_MText_reckons : Cond.static y_MText_reckons.1 ∈ ab_T := (k11 95 rfl rfl)
def B_MText_reckons_9 (N : Nat) (p0 : Int32)  (H : Hp) : Option (Int32 × Hp) :=
    some (1, H)
set_option maxRecDepth 20000 in
set_option maxHeartbeats 2000000 in
theorem mB_MText_reckons_9 {N : Nat} {p0 : Int32}  {H : Hp} {r : Int32 × Hp} (hF : B_MText_reckons_9 N p0  H = some r) : Sa H r.2 := by
  unfold B_MText_reckons_9 at hF
  have hm := Sa.rf H
  have hr := Option.some.inj hF; subst hr
  exact hm
set_option maxRecDepth 20000 in
set_option maxHeartbeats 2000000 in
theorem kB_MText_reckons_9 {N : Nat} {p0 : Int32}  {H : Hp} {r : Int32 × Hp} (hF : B_MText_reckons_9 N p0  H = some r) : ab_V y_MText_reckons { frames := 0, cells := 0, slots := 0, locals := 0 } (po (.returned (some (.int r.1))) r.2) 0 0 0 0 9 [some (.int p0)] [] (hpw H) := by
  unfold B_MText_reckons_9 at hF
  refine ab_iconst (v := 1) d_MText_reckons_9 (by decide) ?_
  refine ab_goto (tgt := 14) d_MText_reckons_10 (by decide) ?_
  exact ab_zret d_MText_reckons_14 rfl rfl (Nat.le_refl _) (Nat.le_refl _) (by have hr := Option.some.inj hF; subst hr; exact ⟨rfl, rfl⟩)
def F_MText_reckons (N : Nat) (p0 : Int32) (H : Hp) : Option (Int32 × Hp) :=
    if p0 = (0 : Int32) then
    B_MText_reckons_9 N p0  H
    else
    if p0 = (2 : Int32) then
    B_MText_reckons_9 N p0  H
    else
    some (0, H)
set_option maxRecDepth 20000 in
set_option maxHeartbeats 2000000 in
theorem m_MText_reckons {N : Nat} {p0 : Int32} {H : Hp} {r : Int32 × Hp} (hF : F_MText_reckons N p0 H = some r) : Sa H r.2 := by
  unfold F_MText_reckons at hF
  have hm := Sa.rf H
  rcases ite_s hF with ⟨q_1, hG⟩ | ⟨q_1, hG⟩
  · clear hF
    exact hm.tr (mB_MText_reckons_9 hG)
  · clear hF
    rcases ite_s hG with ⟨q_2, hF⟩ | ⟨q_2, hF⟩
    · clear hG
      exact hm.tr (mB_MText_reckons_9 hF)
    · clear hG
      have hr := Option.some.inj hF; subst hr
      exact hm
set_option maxRecDepth 20000 in
set_option maxHeartbeats 2000000 in
theorem k_MText_reckons {N : Nat} {p0 : Int32} {H : Hp} {r : Int32 × Hp} (hF : F_MText_reckons N p0 H = some r) : ab_M y_MText_reckons { frames := 0, cells := 0, slots := 0, locals := 0 } [.int p0] (hpw H) (po (.returned (some (.int r.1))) r.2) := by
  unfold F_MText_reckons at hF
  refine ab_of2 (lv := [some (.int p0)]) 0 rfl rfl (Nat.le_of_ble_eq_true rfl) ?_
  refine ab_iload_n d_MText_reckons_0 rfl rfl ?_
  refine ab_if_eq (tgt := 9) d_MText_reckons_1 (by decide) (fun q1 => ?_) (fun q1 => ?_)
  · rw [if_pos q1] at hF
    exact kB_MText_reckons_9 hF
  · rw [if_neg q1] at hF
    refine ab_iload_n d_MText_reckons_4 rfl rfl ?_
    refine ab_iconst (v := 2) d_MText_reckons_5 (by decide) ?_
    refine ab_icmp_ne (tgt := 13) d_MText_reckons_6 (by decide) (fun q2 => ?_) (fun q2 => ?_)
    · rw [if_neg q2] at hF
      refine ab_iconst (v := 0) d_MText_reckons_13 (by decide) ?_
      exact ab_zret d_MText_reckons_14 rfl rfl (Nat.le_refl _) (Nat.le_refl _) (by have hr := Option.some.inj hF; subst hr; exact ⟨rfl, rfl⟩)
    · rw [if_pos q2] at hF
      exact kB_MText_reckons_9 hF
def y_MText_goTogether : ab_Y := (⟨"WorldEngineModel$Text", "goTogether", "(IIIZ)I"⟩, prog_16_method_62_code, 5, (some FieldType.int), [])
theorem d_MText_goTogether_0 : decode y_MText_goTogether.2.1 0 = .ok (.aload_n 0, 1) := by decide +kernel
theorem d_MText_goTogether_1 : decode y_MText_goTogether.2.1 1 = .ok (.getfield 185, 3) := by decide +kernel
theorem d_MText_goTogether_4 : decode y_MText_goTogether.2.1 4 = .ok (.ifCond .ne 19, 3) := by decide +kernel
theorem d_MText_goTogether_7 : decode y_MText_goTogether.2.1 7 = .ok (.iload 4, 2) := by decide +kernel
theorem d_MText_goTogether_9 : decode y_MText_goTogether.2.1 9 = .ok (.ifCond .eq 8, 3) := by decide +kernel
theorem d_MText_goTogether_12 : decode y_MText_goTogether.2.1 12 = .ok (.iload_n 2, 1) := by decide +kernel
theorem d_MText_goTogether_13 : decode y_MText_goTogether.2.1 13 = .ok (.iload_n 3, 1) := by decide +kernel
theorem d_MText_goTogether_14 : decode y_MText_goTogether.2.1 14 = .ok (.if_icmp .eq 9, 3) := by decide +kernel
theorem d_MText_goTogether_17 : decode y_MText_goTogether.2.1 17 = .ok (.aload_n 0, 1) := by decide +kernel
theorem d_MText_goTogether_18 : decode y_MText_goTogether.2.1 18 = .ok (.iconst 5, 1) := by decide +kernel
theorem d_MText_goTogether_19 : decode y_MText_goTogether.2.1 19 = .ok (.iload_n 1, 1) := by decide +kernel
theorem d_MText_goTogether_20 : decode y_MText_goTogether.2.1 20 = .ok (.invokevirtual 200, 3) := by decide +kernel
theorem d_MText_goTogether_23 : decode y_MText_goTogether.2.1 23 = .ok (.aload_n 0, 1) := by decide +kernel
theorem d_MText_goTogether_24 : decode y_MText_goTogether.2.1 24 = .ok (.getfield 32, 3) := by decide +kernel
theorem d_MText_goTogether_27 : decode y_MText_goTogether.2.1 27 = .ok (.iload_n 1, 1) := by decide +kernel
theorem d_MText_goTogether_28 : decode y_MText_goTogether.2.1 28 = .ok (.iload_n 2, 1) := by decide +kernel
theorem d_MText_goTogether_29 : decode y_MText_goTogether.2.1 29 = .ok (.iastore, 1) := by decide +kernel
theorem d_MText_goTogether_30 : decode y_MText_goTogether.2.1 30 = .ok (.iload_n 2, 1) := by decide +kernel
theorem d_MText_goTogether_31 : decode y_MText_goTogether.2.1 31 = .ok (.ireturn, 1) := by decide +kernel
theorem s_MText_goTogether : ab_Stat y_MText_goTogether 4 := ⟨(k11 100 rfl rfl), (k1 20 rfl rfl), ⟨by decide, by decide⟩, by decide +kernel⟩
theorem i_MText_goTogether : Cond.instanceMethod y_MText_goTogether.1 ∈ ab_T := (k11 99 rfl rfl)
theorem v_MText_goTogether : Cond.selects "WorldEngineModel$Text" y_MText_goTogether.1 y_MText_goTogether.1 ∈ ab_T := ab_s (List.mem_of_getElem? (i := 155) rfl) rfl
def B_MText_goTogether_23 (N : Nat) (p0 : Nat) (p1 : Int32) (p2 : Int32) (p3 : Int32) (p4 : Int32)  (H : Hp) : Option (Int32 × Hp) :=
    ck (H.sh[p0]? = some (14, 0)) <|
    rf (H.P p0 8) fun a5 =>
    ar H 100 a5 fun n7 =>
    ck (inb p1 n7) <|
    bnd (H.sD a5 (p1).toNatClampNeg p2) fun H10 =>
    some (p2, H10)
set_option maxRecDepth 20000 in
set_option maxHeartbeats 2000000 in
theorem mB_MText_goTogether_23 {N : Nat} {p0 : Nat} {p1 : Int32} {p2 : Int32} {p3 : Int32} {p4 : Int32}  {H : Hp} {r : Int32 × Hp} (hF : B_MText_goTogether_23 N p0 p1 p2 p3 p4  H = some r) : Sa H r.2 := by
  unfold B_MText_goTogether_23 at hF
  have hm := Sa.rf H
  obtain ⟨q11, hG⟩ := ck_s hF; clear hF
  obtain ⟨a12, e13, hF⟩ := rf_s hG; clear hG
  obtain ⟨n14, q15, hG⟩ := ar_s hF; clear hF
  obtain ⟨q16, hF⟩ := ck_s hG; clear hG
  obtain ⟨H17, eH17, hG⟩ := bnd_g hF; clear hF
  replace hm : Sa H H17 := by rw [eH17]; exact hm
  have hr := Option.some.inj hG; subst hr
  exact hm
set_option maxRecDepth 20000 in
set_option maxHeartbeats 2000000 in
theorem kB_MText_goTogether_23 {N : Nat} {p0 : Nat} {p1 : Int32} {p2 : Int32} {p3 : Int32} {p4 : Int32}  {H : Hp} {r : Int32 × Hp} (hF : B_MText_goTogether_23 N p0 p1 p2 p3 p4  H = some r) : ab_V y_MText_goTogether { frames := 1, cells := 0, slots := 0, locals := 22 } (po (.returned (some (.int r.1))) r.2) 0 0 0 0 23 [some (.ref p0), some (.int p1), some (.int p2), some (.int p3), some (.int p4)] [] (hpw H) := by
  unfold B_MText_goTogether_23 at hF
  refine ab_aload_n d_MText_goTogether_23 rfl rfl rfl ?_
  obtain ⟨q4, hG⟩ := ck_s hF; clear hF
  obtain ⟨a5, e6, hF⟩ := rf_s hG; clear hG
  refine hp_getR (f := 8) d_MText_goTogether_24 q4 (by decide) rfl (by decide) (k8 169 rfl rfl) rfl e6 ?_
  refine ab_iload_n d_MText_goTogether_27 rfl rfl ?_
  refine ab_iload_n d_MText_goTogether_28 rfl rfl ?_
  obtain ⟨n7, q8, hG⟩ := ar_s hF; clear hF
  obtain ⟨q9, hF⟩ := ck_s hG; clear hG
  refine hp_iast d_MText_goTogether_29 tI q8 q9 ?_
  refine hp_gen (fun H10 eH10 => ?_)
  replace hF := bnd_s eH10 hF
  have s_1 : Sa H H10 := by rw [eH10]; exact Sa.rf _
  refine ab_iload_n d_MText_goTogether_30 rfl rfl ?_
  exact ab_iret d_MText_goTogether_31 rfl (Nat.le_refl _) (Nat.le_refl _) (by have hr := Option.some.inj hF; subst hr; exact ⟨rfl, rfl⟩)
def B_MText_goTogether_17 (N : Nat) (p0 : Nat) (p1 : Int32) (p2 : Int32) (p3 : Int32) (p4 : Int32)  (H : Hp) : Option (Int32 × Hp) :=
    ck (H.sh[p0]? = some (14, 0)) <|
    bC (F_MText_fails N p0 (5 : Int32) p1 H) fun v21 H22 =>
    B_MText_goTogether_23 N p0 p1 p2 p3 p4  H22
set_option maxRecDepth 20000 in
set_option maxHeartbeats 2000000 in
theorem mB_MText_goTogether_17 {N : Nat} {p0 : Nat} {p1 : Int32} {p2 : Int32} {p3 : Int32} {p4 : Int32}  {H : Hp} {r : Int32 × Hp} (hF : B_MText_goTogether_17 N p0 p1 p2 p3 p4  H = some r) : Sa H r.2 := by
  unfold B_MText_goTogether_17 at hF
  have hm := Sa.rf H
  obtain ⟨q23, hG⟩ := ck_s hF; clear hF
  obtain ⟨v25, H26, z24, hF⟩ := bC_s hG; clear hG
  replace hm : Sa H H26 := hm.tr (m_MText_fails z24)
  exact hm.tr (mB_MText_goTogether_23 hF)
set_option maxRecDepth 20000 in
set_option maxHeartbeats 2000000 in
theorem kB_MText_goTogether_17 {N : Nat} {p0 : Nat} {p1 : Int32} {p2 : Int32} {p3 : Int32} {p4 : Int32}  {H : Hp} {r : Int32 × Hp} (hF : B_MText_goTogether_17 N p0 p1 p2 p3 p4  H = some r) : ab_V y_MText_goTogether { frames := 1, cells := 0, slots := 0, locals := 22 } (po (.returned (some (.int r.1))) r.2) 0 0 0 0 17 [some (.ref p0), some (.int p1), some (.int p2), some (.int p3), some (.int p4)] [] (hpw H) := by
  unfold B_MText_goTogether_17 at hF
  refine ab_aload_n d_MText_goTogether_17 rfl rfl rfl ?_
  refine ab_iconst (v := 5) d_MText_goTogether_18 (by decide) ?_
  refine ab_iload_n d_MText_goTogether_19 rfl rfl ?_
  obtain ⟨q19, hG⟩ := ck_s hF; clear hF
  obtain ⟨v21, H22, z20, hF⟩ := bC_s hG; clear hG
  refine hp_callV_v (H1 := H22) (As := [.int 5, .int p1]) (rest := []) d_MText_goTogether_20 (k_MText_fails z20) (ab_mkC s_MText_fails (Nat.le_of_ble_eq_true rfl) (Nat.le_of_ble_eq_true rfl) (Nat.le_refl 0) (Nat.le_refl 0)) (k10 160 rfl rfl) i_MText_fails v_MText_fails q19 (by decide) rfl rfl (Nat.le_of_ble_eq_true rfl) ?_
  have s_3 : Sa H H22 := (m_MText_fails z20)
  exact kB_MText_goTogether_23 hF
def F_MText_goTogether (N : Nat) (p0 : Nat) (p1 : Int32) (p2 : Int32) (p3 : Int32) (p4 : Int32) (H : Hp) : Option (Int32 × Hp) :=
    ck (H.sh[p0]? = some (14, 0)) <|
    bnd ((H.D p0 9)) fun x2 =>
    if x2 = (0 : Int32) then
    if p4 = (0 : Int32) then
    B_MText_goTogether_17 N p0 p1 p2 p3 p4  H
    else
    if p2 = p3 then
    B_MText_goTogether_23 N p0 p1 p2 p3 p4  H
    else
    B_MText_goTogether_17 N p0 p1 p2 p3 p4  H
    else
    B_MText_goTogether_23 N p0 p1 p2 p3 p4  H
set_option maxRecDepth 20000 in
set_option maxHeartbeats 2000000 in
theorem m_MText_goTogether {N : Nat} {p0 : Nat} {p1 : Int32} {p2 : Int32} {p3 : Int32} {p4 : Int32} {H : Hp} {r : Int32 × Hp} (hF : F_MText_goTogether N p0 p1 p2 p3 p4 H = some r) : Sa H r.2 := by
  unfold F_MText_goTogether at hF
  have hm := Sa.rf H
  obtain ⟨q28, hG⟩ := ck_s hF; clear hF
  obtain ⟨x29, -, hF⟩ := bnd_g hG; clear hG
  rcases ite_s hF with ⟨q_5, hG⟩ | ⟨q_5, hG⟩
  · clear hF
    rcases ite_s hG with ⟨q_6, hF⟩ | ⟨q_6, hF⟩
    · clear hG
      exact hm.tr (mB_MText_goTogether_17 hF)
    · clear hG
      rcases ite_s hF with ⟨q_7, hG⟩ | ⟨q_7, hG⟩
      · clear hF
        exact hm.tr (mB_MText_goTogether_23 hG)
      · clear hF
        exact hm.tr (mB_MText_goTogether_17 hG)
  · clear hF
    exact hm.tr (mB_MText_goTogether_23 hG)
set_option maxRecDepth 20000 in
set_option maxHeartbeats 2000000 in
theorem k_MText_goTogether {N : Nat} {p0 : Nat} {p1 : Int32} {p2 : Int32} {p3 : Int32} {p4 : Int32} {H : Hp} {r : Int32 × Hp} (hF : F_MText_goTogether N p0 p1 p2 p3 p4 H = some r) : ab_M y_MText_goTogether { frames := 1, cells := 0, slots := 0, locals := 22 } [.ref p0, .int p1, .int p2, .int p3, .int p4] (hpw H) (po (.returned (some (.int r.1))) r.2) := by
  unfold F_MText_goTogether at hF
  refine ab_of2 (lv := [some (.ref p0), some (.int p1), some (.int p2), some (.int p3), some (.int p4)]) 0 rfl rfl (Nat.le_of_ble_eq_true rfl) ?_
  refine ab_aload_n d_MText_goTogether_0 rfl rfl rfl ?_
  obtain ⟨q1, hG⟩ := ck_s hF; clear hF
  refine hp_getI (f := 9) d_MText_goTogether_1 q1 (by decide) rfl (by decide) (k8 172 rfl rfl) rfl ?_
  refine ab_topi (fun x2 ex2 => ?_)
  replace hG := bnd_s ex2 hG
  refine ab_if_ne (tgt := 23) d_MText_goTogether_4 (by decide) (fun q3 => ?_) (fun q3 => ?_)
  · rw [if_neg q3] at hG
    exact kB_MText_goTogether_23 hG
  · rw [if_pos q3] at hG
    refine ab_iload d_MText_goTogether_7 rfl ?_
    refine ab_if_eq (tgt := 17) d_MText_goTogether_9 (by decide) (fun q18 => ?_) (fun q18 => ?_)
    · rw [if_pos q18] at hG
      exact kB_MText_goTogether_17 hG
    · rw [if_neg q18] at hG
      refine ab_iload_n d_MText_goTogether_12 rfl rfl ?_
      refine ab_iload_n d_MText_goTogether_13 rfl rfl ?_
      refine ab_icmp_eq (tgt := 23) d_MText_goTogether_14 (by decide) (fun q27 => ?_) (fun q27 => ?_)
      · rw [if_pos q27] at hG
        exact kB_MText_goTogether_23 hG
      · rw [if_neg q27] at hG
        exact kB_MText_goTogether_17 hG
def y_MText_isLess : ab_Y := (⟨"WorldEngineModel$Text", "isLess", "()Z"⟩, prog_16_method_64_code, 1, (some FieldType.boolean), [])
theorem d_MText_isLess_0 : decode y_MText_isLess.2.1 0 = .ok (.aload_n 0, 1) := by decide +kernel
theorem d_MText_isLess_1 : decode y_MText_isLess.2.1 1 = .ok (.bipush 60, 2) := by decide +kernel
theorem d_MText_isLess_3 : decode y_MText_isLess.2.1 3 = .ok (.invokevirtual 194, 3) := by decide +kernel
theorem d_MText_isLess_6 : decode y_MText_isLess.2.1 6 = .ok (.ifCond .ne 29, 3) := by decide +kernel
theorem d_MText_isLess_9 : decode y_MText_isLess.2.1 9 = .ok (.aload_n 0, 1) := by decide +kernel
theorem d_MText_isLess_10 : decode y_MText_isLess.2.1 10 = .ok (.bipush 62, 2) := by decide +kernel
theorem d_MText_isLess_12 : decode y_MText_isLess.2.1 12 = .ok (.invokevirtual 194, 3) := by decide +kernel
theorem d_MText_isLess_15 : decode y_MText_isLess.2.1 15 = .ok (.ifCond .ne 20, 3) := by decide +kernel
theorem d_MText_isLess_18 : decode y_MText_isLess.2.1 18 = .ok (.aload_n 0, 1) := by decide +kernel
theorem d_MText_isLess_19 : decode y_MText_isLess.2.1 19 = .ok (.iconst 5, 1) := by decide +kernel
theorem d_MText_isLess_20 : decode y_MText_isLess.2.1 20 = .ok (.invokevirtual 194, 3) := by decide +kernel
theorem d_MText_isLess_23 : decode y_MText_isLess.2.1 23 = .ok (.ifCond .ne 12, 3) := by decide +kernel
theorem d_MText_isLess_26 : decode y_MText_isLess.2.1 26 = .ok (.aload_n 0, 1) := by decide +kernel
theorem d_MText_isLess_27 : decode y_MText_isLess.2.1 27 = .ok (.bipush 6, 2) := by decide +kernel
theorem d_MText_isLess_29 : decode y_MText_isLess.2.1 29 = .ok (.invokevirtual 194, 3) := by decide +kernel
theorem d_MText_isLess_32 : decode y_MText_isLess.2.1 32 = .ok (.ifCond .eq 7, 3) := by decide +kernel
theorem d_MText_isLess_35 : decode y_MText_isLess.2.1 35 = .ok (.iconst 1, 1) := by decide +kernel
theorem d_MText_isLess_36 : decode y_MText_isLess.2.1 36 = .ok (.goto 4, 3) := by decide +kernel
theorem d_MText_isLess_39 : decode y_MText_isLess.2.1 39 = .ok (.iconst 0, 1) := by decide +kernel
theorem d_MText_isLess_40 : decode y_MText_isLess.2.1 40 = .ok (.ireturn, 1) := by decide +kernel
theorem s_MText_isLess : ab_Stat y_MText_isLess 0 := ⟨(k11 104 rfl rfl), (k1 20 rfl rfl), ⟨by decide, by decide⟩, by decide +kernel⟩
theorem i_MText_isLess : Cond.instanceMethod y_MText_isLess.1 ∈ ab_T := (k11 103 rfl rfl)
theorem v_MText_isLess : Cond.selects "WorldEngineModel$Text" y_MText_isLess.1 y_MText_isLess.1 ∈ ab_T := ab_s (List.mem_of_getElem? (i := 156) rfl) rfl
def B_MText_isLess_35 (N : Nat) (p0 : Nat)  (H : Hp) : Option (Int32 × Hp) :=
    some (1, H)
set_option maxRecDepth 20000 in
set_option maxHeartbeats 2000000 in
theorem mB_MText_isLess_35 {N : Nat} {p0 : Nat}  {H : Hp} {r : Int32 × Hp} (hF : B_MText_isLess_35 N p0  H = some r) : Sa H r.2 := by
  unfold B_MText_isLess_35 at hF
  have hm := Sa.rf H
  have hr := Option.some.inj hF; subst hr
  exact hm
set_option maxRecDepth 20000 in
set_option maxHeartbeats 2000000 in
theorem kB_MText_isLess_35 {N : Nat} {p0 : Nat}  {H : Hp} {r : Int32 × Hp} (hF : B_MText_isLess_35 N p0  H = some r) : ab_V y_MText_isLess { frames := 1, cells := 0, slots := 0, locals := 21 } (po (.returned (some (.int r.1))) r.2) 0 0 0 0 35 [some (.ref p0)] [] (hpw H) := by
  unfold B_MText_isLess_35 at hF
  refine ab_iconst (v := 1) d_MText_isLess_35 (by decide) ?_
  refine ab_goto (tgt := 40) d_MText_isLess_36 (by decide) ?_
  exact ab_zret d_MText_isLess_40 rfl rfl (Nat.le_refl _) (Nat.le_refl _) (by have hr := Option.some.inj hF; subst hr; exact ⟨rfl, rfl⟩)
def F_MText_isLess (N : Nat) (p0 : Nat) (H : Hp) : Option (Int32 × Hp) :=
    ck (H.sh[p0]? = some (14, 0)) <|
    bC (F_MText_is N p0 (60 : Int32) H) fun v3 H4 =>
    if v3 = (0 : Int32) then
    bC (F_MText_is N p0 (62 : Int32) H4) fun v7 H8 =>
    if v7 = (0 : Int32) then
    bC (F_MText_is N p0 (5 : Int32) H8) fun v11 H12 =>
    if v11 = (0 : Int32) then
    bC (F_MText_is N p0 (6 : Int32) H12) fun v15 H16 =>
    if v15 = (0 : Int32) then
    some (0, H16)
    else
    B_MText_isLess_35 N p0  H16
    else
    B_MText_isLess_35 N p0  H12
    else
    B_MText_isLess_35 N p0  H8
    else
    B_MText_isLess_35 N p0  H4
set_option maxRecDepth 20000 in
set_option maxHeartbeats 2000000 in
theorem m_MText_isLess {N : Nat} {p0 : Nat} {H : Hp} {r : Int32 × Hp} (hF : F_MText_isLess N p0 H = some r) : Sa H r.2 := by
  unfold F_MText_isLess at hF
  have hm := Sa.rf H
  obtain ⟨q18, hG⟩ := ck_s hF; clear hF
  obtain ⟨v20, H21, z19, hF⟩ := bC_s hG; clear hG
  replace hm : Sa H H21 := hm.tr (m_MText_is z19)
  rcases ite_s hF with ⟨q_6, hG⟩ | ⟨q_6, hG⟩
  · clear hF
    obtain ⟨v24, H25, z23, hF⟩ := bC_s hG; clear hG
    replace hm : Sa H H25 := hm.tr (m_MText_is z23)
    rcases ite_s hF with ⟨q_8, hG⟩ | ⟨q_8, hG⟩
    · clear hF
      obtain ⟨v28, H29, z27, hF⟩ := bC_s hG; clear hG
      replace hm : Sa H H29 := hm.tr (m_MText_is z27)
      rcases ite_s hF with ⟨q_10, hG⟩ | ⟨q_10, hG⟩
      · clear hF
        obtain ⟨v32, H33, z31, hF⟩ := bC_s hG; clear hG
        replace hm : Sa H H33 := hm.tr (m_MText_is z31)
        rcases ite_s hF with ⟨q_12, hG⟩ | ⟨q_12, hG⟩
        · clear hF
          have hr := Option.some.inj hG; subst hr
          exact hm
        · clear hF
          exact hm.tr (mB_MText_isLess_35 hG)
      · clear hF
        exact hm.tr (mB_MText_isLess_35 hG)
    · clear hF
      exact hm.tr (mB_MText_isLess_35 hG)
  · clear hF
    exact hm.tr (mB_MText_isLess_35 hG)
set_option maxRecDepth 20000 in
set_option maxHeartbeats 2000000 in
theorem k_MText_isLess {N : Nat} {p0 : Nat} {H : Hp} {r : Int32 × Hp} (hF : F_MText_isLess N p0 H = some r) : ab_M y_MText_isLess { frames := 1, cells := 0, slots := 0, locals := 21 } [.ref p0] (hpw H) (po (.returned (some (.int r.1))) r.2) := by
  unfold F_MText_isLess at hF
  refine ab_of2 (lv := [some (.ref p0)]) 0 rfl rfl (Nat.le_of_ble_eq_true rfl) ?_
  refine ab_aload_n d_MText_isLess_0 rfl rfl rfl ?_
  refine ab_bipush (v := 60) d_MText_isLess_1 (by decide) ?_
  obtain ⟨q1, hG⟩ := ck_s hF; clear hF
  obtain ⟨v3, H4, z2, hF⟩ := bC_s hG; clear hG
  refine hp_callV_a (v := .int v3) (H1 := H4) (As := [.int 60]) (rest := []) d_MText_isLess_3 (k_MText_is z2) (ab_mkC s_MText_is (Nat.le_of_ble_eq_true rfl) (Nat.le_of_ble_eq_true rfl) (Nat.le_refl 0) (Nat.le_refl 0)) (k10 180 rfl rfl) i_MText_is v_MText_is q1 (by decide) rfl rfl (Nat.le_of_ble_eq_true rfl) ?_
  have s_1 : Sa H H4 := (m_MText_is z2)
  refine ab_if_ne (tgt := 35) d_MText_isLess_6 (by decide) (fun q5 => ?_) (fun q5 => ?_)
  · rw [if_neg q5] at hF
    exact kB_MText_isLess_35 hF
  · rw [if_pos q5] at hF
    refine ab_aload_n d_MText_isLess_9 rfl rfl rfl ?_
    refine ab_bipush (v := 62) d_MText_isLess_10 (by decide) ?_
    obtain ⟨v7, H8, z6, hG⟩ := bC_s hF; clear hF
    refine hp_callV_a (v := .int v7) (H1 := H8) (As := [.int 62]) (rest := []) d_MText_isLess_12 (k_MText_is z6) (ab_mkC s_MText_is (Nat.le_of_ble_eq_true rfl) (Nat.le_of_ble_eq_true rfl) (Nat.le_refl 0) (Nat.le_refl 0)) (k10 180 rfl rfl) i_MText_is v_MText_is (by rw [(s_1).1]; exact q1) (by decide) rfl rfl (Nat.le_of_ble_eq_true rfl) ?_
    have s_2 : Sa H H8 := (s_1).tr (m_MText_is z6)
    refine ab_if_ne (tgt := 35) d_MText_isLess_15 (by decide) (fun q9 => ?_) (fun q9 => ?_)
    · rw [if_neg q9] at hG
      exact kB_MText_isLess_35 hG
    · rw [if_pos q9] at hG
      refine ab_aload_n d_MText_isLess_18 rfl rfl rfl ?_
      refine ab_iconst (v := 5) d_MText_isLess_19 (by decide) ?_
      obtain ⟨v11, H12, z10, hF⟩ := bC_s hG; clear hG
      refine hp_callV_a (v := .int v11) (H1 := H12) (As := [.int 5]) (rest := []) d_MText_isLess_20 (k_MText_is z10) (ab_mkC s_MText_is (Nat.le_of_ble_eq_true rfl) (Nat.le_of_ble_eq_true rfl) (Nat.le_refl 0) (Nat.le_refl 0)) (k10 180 rfl rfl) i_MText_is v_MText_is (by rw [(s_2).1]; exact q1) (by decide) rfl rfl (Nat.le_of_ble_eq_true rfl) ?_
      have s_3 : Sa H H12 := (s_2).tr (m_MText_is z10)
      refine ab_if_ne (tgt := 35) d_MText_isLess_23 (by decide) (fun q13 => ?_) (fun q13 => ?_)
      · rw [if_neg q13] at hF
        exact kB_MText_isLess_35 hF
      · rw [if_pos q13] at hF
        refine ab_aload_n d_MText_isLess_26 rfl rfl rfl ?_
        refine ab_bipush (v := 6) d_MText_isLess_27 (by decide) ?_
        obtain ⟨v15, H16, z14, hG⟩ := bC_s hF; clear hF
        refine hp_callV_a (v := .int v15) (H1 := H16) (As := [.int 6]) (rest := []) d_MText_isLess_29 (k_MText_is z14) (ab_mkC s_MText_is (Nat.le_of_ble_eq_true rfl) (Nat.le_of_ble_eq_true rfl) (Nat.le_refl 0) (Nat.le_refl 0)) (k10 180 rfl rfl) i_MText_is v_MText_is (by rw [(s_3).1]; exact q1) (by decide) rfl rfl (Nat.le_of_ble_eq_true rfl) ?_
        have s_4 : Sa H H16 := (s_3).tr (m_MText_is z14)
        refine ab_if_eq (tgt := 39) d_MText_isLess_32 (by decide) (fun q17 => ?_) (fun q17 => ?_)
        · rw [if_pos q17] at hG
          refine ab_iconst (v := 0) d_MText_isLess_39 (by decide) ?_
          exact ab_zret d_MText_isLess_40 rfl rfl (Nat.le_refl _) (Nat.le_refl _) (by have hr := Option.some.inj hG; subst hr; exact ⟨rfl, rfl⟩)
        · rw [if_neg q17] at hG
          exact kB_MText_isLess_35 hG
