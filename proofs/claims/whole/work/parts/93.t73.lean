def y_M_putsWorld : ab_Y := (⟨"WorldEngineModel", "putsWorld", "()V"⟩, prog_14_method_44_code, 4, none, [])
theorem d_M_putsWorld_0 : decode y_M_putsWorld.2.1 0 = .ok (.aload_n 0, 1) := by decide +kernel
theorem d_M_putsWorld_1 : decode y_M_putsWorld.2.1 1 = .ok (.bipush 87, 2) := by decide +kernel
theorem d_M_putsWorld_3 : decode y_M_putsWorld.2.1 3 = .ok (.iconst 1, 1) := by decide +kernel
theorem d_M_putsWorld_4 : decode y_M_putsWorld.2.1 4 = .ok (.invokevirtual 337, 3) := by decide +kernel
theorem d_M_putsWorld_7 : decode y_M_putsWorld.2.1 7 = .ok (.aload_n 0, 1) := by decide +kernel
theorem d_M_putsWorld_8 : decode y_M_putsWorld.2.1 8 = .ok (.bipush 69, 2) := by decide +kernel
theorem d_M_putsWorld_10 : decode y_M_putsWorld.2.1 10 = .ok (.iconst 1, 1) := by decide +kernel
theorem d_M_putsWorld_11 : decode y_M_putsWorld.2.1 11 = .ok (.invokevirtual 337, 3) := by decide +kernel
theorem d_M_putsWorld_14 : decode y_M_putsWorld.2.1 14 = .ok (.aload_n 0, 1) := by decide +kernel
theorem d_M_putsWorld_15 : decode y_M_putsWorld.2.1 15 = .ok (.aload_n 0, 1) := by decide +kernel
theorem d_M_putsWorld_16 : decode y_M_putsWorld.2.1 16 = .ok (.getfield 16, 3) := by decide +kernel
theorem d_M_putsWorld_19 : decode y_M_putsWorld.2.1 19 = .ok (.getfield 161, 3) := by decide +kernel
theorem d_M_putsWorld_22 : decode y_M_putsWorld.2.1 22 = .ok (.iconst 1, 1) := by decide +kernel
theorem d_M_putsWorld_23 : decode y_M_putsWorld.2.1 23 = .ok (.invokevirtual 337, 3) := by decide +kernel
theorem d_M_putsWorld_26 : decode y_M_putsWorld.2.1 26 = .ok (.iconst 0, 1) := by decide +kernel
theorem d_M_putsWorld_27 : decode y_M_putsWorld.2.1 27 = .ok (.istore_n 1, 1) := by decide +kernel
theorem d_M_putsWorld_28 : decode y_M_putsWorld.2.1 28 = .ok (.iload_n 1, 1) := by decide +kernel
theorem d_M_putsWorld_29 : decode y_M_putsWorld.2.1 29 = .ok (.aload_n 0, 1) := by decide +kernel
theorem d_M_putsWorld_30 : decode y_M_putsWorld.2.1 30 = .ok (.getfield 16, 3) := by decide +kernel
theorem d_M_putsWorld_33 : decode y_M_putsWorld.2.1 33 = .ok (.getfield 161, 3) := by decide +kernel
theorem d_M_putsWorld_36 : decode y_M_putsWorld.2.1 36 = .ok (.if_icmp .ge 80, 3) := by decide +kernel
theorem d_M_putsWorld_39 : decode y_M_putsWorld.2.1 39 = .ok (.aload_n 0, 1) := by decide +kernel
theorem d_M_putsWorld_40 : decode y_M_putsWorld.2.1 40 = .ok (.aload_n 0, 1) := by decide +kernel
theorem d_M_putsWorld_41 : decode y_M_putsWorld.2.1 41 = .ok (.getfield 16, 3) := by decide +kernel
theorem d_M_putsWorld_44 : decode y_M_putsWorld.2.1 44 = .ok (.getfield 171, 3) := by decide +kernel
theorem d_M_putsWorld_47 : decode y_M_putsWorld.2.1 47 = .ok (.iload_n 1, 1) := by decide +kernel
theorem d_M_putsWorld_48 : decode y_M_putsWorld.2.1 48 = .ok (.iconst 1, 1) := by decide +kernel
theorem d_M_putsWorld_49 : decode y_M_putsWorld.2.1 49 = .ok (.iadd, 1) := by decide +kernel
theorem d_M_putsWorld_50 : decode y_M_putsWorld.2.1 50 = .ok (.iaload, 1) := by decide +kernel
theorem d_M_putsWorld_51 : decode y_M_putsWorld.2.1 51 = .ok (.aload_n 0, 1) := by decide +kernel
theorem d_M_putsWorld_52 : decode y_M_putsWorld.2.1 52 = .ok (.getfield 16, 3) := by decide +kernel
theorem d_M_putsWorld_55 : decode y_M_putsWorld.2.1 55 = .ok (.getfield 171, 3) := by decide +kernel
theorem d_M_putsWorld_58 : decode y_M_putsWorld.2.1 58 = .ok (.iload_n 1, 1) := by decide +kernel
theorem d_M_putsWorld_59 : decode y_M_putsWorld.2.1 59 = .ok (.iaload, 1) := by decide +kernel
theorem d_M_putsWorld_60 : decode y_M_putsWorld.2.1 60 = .ok (.isub, 1) := by decide +kernel
theorem d_M_putsWorld_61 : decode y_M_putsWorld.2.1 61 = .ok (.iconst 1, 1) := by decide +kernel
theorem d_M_putsWorld_62 : decode y_M_putsWorld.2.1 62 = .ok (.invokevirtual 337, 3) := by decide +kernel
theorem d_M_putsWorld_65 : decode y_M_putsWorld.2.1 65 = .ok (.aload_n 0, 1) := by decide +kernel
theorem d_M_putsWorld_66 : decode y_M_putsWorld.2.1 66 = .ok (.getfield 16, 3) := by decide +kernel
theorem d_M_putsWorld_69 : decode y_M_putsWorld.2.1 69 = .ok (.getfield 171, 3) := by decide +kernel
theorem d_M_putsWorld_72 : decode y_M_putsWorld.2.1 72 = .ok (.iload_n 1, 1) := by decide +kernel
theorem d_M_putsWorld_73 : decode y_M_putsWorld.2.1 73 = .ok (.iaload, 1) := by decide +kernel
theorem d_M_putsWorld_74 : decode y_M_putsWorld.2.1 74 = .ok (.istore_n 2, 1) := by decide +kernel
theorem d_M_putsWorld_75 : decode y_M_putsWorld.2.1 75 = .ok (.iload_n 2, 1) := by decide +kernel
theorem d_M_putsWorld_76 : decode y_M_putsWorld.2.1 76 = .ok (.aload_n 0, 1) := by decide +kernel
theorem d_M_putsWorld_77 : decode y_M_putsWorld.2.1 77 = .ok (.getfield 16, 3) := by decide +kernel
theorem d_M_putsWorld_80 : decode y_M_putsWorld.2.1 80 = .ok (.getfield 171, 3) := by decide +kernel
theorem d_M_putsWorld_83 : decode y_M_putsWorld.2.1 83 = .ok (.iload_n 1, 1) := by decide +kernel
theorem d_M_putsWorld_84 : decode y_M_putsWorld.2.1 84 = .ok (.iconst 1, 1) := by decide +kernel
theorem d_M_putsWorld_85 : decode y_M_putsWorld.2.1 85 = .ok (.iadd, 1) := by decide +kernel
theorem d_M_putsWorld_86 : decode y_M_putsWorld.2.1 86 = .ok (.iaload, 1) := by decide +kernel
theorem d_M_putsWorld_87 : decode y_M_putsWorld.2.1 87 = .ok (.if_icmp .ge 23, 3) := by decide +kernel
theorem d_M_putsWorld_90 : decode y_M_putsWorld.2.1 90 = .ok (.aload_n 0, 1) := by decide +kernel
theorem d_M_putsWorld_91 : decode y_M_putsWorld.2.1 91 = .ok (.aload_n 0, 1) := by decide +kernel
theorem d_M_putsWorld_92 : decode y_M_putsWorld.2.1 92 = .ok (.getfield 16, 3) := by decide +kernel
theorem d_M_putsWorld_95 : decode y_M_putsWorld.2.1 95 = .ok (.getfield 184, 3) := by decide +kernel
theorem d_M_putsWorld_98 : decode y_M_putsWorld.2.1 98 = .ok (.iload_n 2, 1) := by decide +kernel
theorem d_M_putsWorld_99 : decode y_M_putsWorld.2.1 99 = .ok (.iaload, 1) := by decide +kernel
theorem d_M_putsWorld_100 : decode y_M_putsWorld.2.1 100 = .ok (.iconst 1, 1) := by decide +kernel
theorem d_M_putsWorld_101 : decode y_M_putsWorld.2.1 101 = .ok (.invokevirtual 337, 3) := by decide +kernel
theorem d_M_putsWorld_104 : decode y_M_putsWorld.2.1 104 = .ok (.iinc 2 1, 3) := by decide +kernel
theorem d_M_putsWorld_107 : decode y_M_putsWorld.2.1 107 = .ok (.goto (-32), 3) := by decide +kernel
theorem d_M_putsWorld_110 : decode y_M_putsWorld.2.1 110 = .ok (.iinc 1 1, 3) := by decide +kernel
theorem d_M_putsWorld_113 : decode y_M_putsWorld.2.1 113 = .ok (.goto (-85), 3) := by decide +kernel
theorem d_M_putsWorld_116 : decode y_M_putsWorld.2.1 116 = .ok (.aload_n 0, 1) := by decide +kernel
theorem d_M_putsWorld_117 : decode y_M_putsWorld.2.1 117 = .ok (.aload_n 0, 1) := by decide +kernel
theorem d_M_putsWorld_118 : decode y_M_putsWorld.2.1 118 = .ok (.getfield 16, 3) := by decide +kernel
theorem d_M_putsWorld_121 : decode y_M_putsWorld.2.1 121 = .ok (.getfield 341, 3) := by decide +kernel
theorem d_M_putsWorld_124 : decode y_M_putsWorld.2.1 124 = .ok (.iconst 1, 1) := by decide +kernel
theorem d_M_putsWorld_125 : decode y_M_putsWorld.2.1 125 = .ok (.invokevirtual 337, 3) := by decide +kernel
theorem d_M_putsWorld_128 : decode y_M_putsWorld.2.1 128 = .ok (.iconst 0, 1) := by decide +kernel
theorem d_M_putsWorld_129 : decode y_M_putsWorld.2.1 129 = .ok (.istore_n 1, 1) := by decide +kernel
theorem d_M_putsWorld_130 : decode y_M_putsWorld.2.1 130 = .ok (.iload_n 1, 1) := by decide +kernel
theorem d_M_putsWorld_131 : decode y_M_putsWorld.2.1 131 = .ok (.aload_n 0, 1) := by decide +kernel
theorem d_M_putsWorld_132 : decode y_M_putsWorld.2.1 132 = .ok (.getfield 16, 3) := by decide +kernel
theorem d_M_putsWorld_135 : decode y_M_putsWorld.2.1 135 = .ok (.getfield 341, 3) := by decide +kernel
theorem d_M_putsWorld_138 : decode y_M_putsWorld.2.1 138 = .ok (.if_icmp .ge 62, 3) := by decide +kernel
theorem d_M_putsWorld_141 : decode y_M_putsWorld.2.1 141 = .ok (.aload_n 0, 1) := by decide +kernel
theorem d_M_putsWorld_142 : decode y_M_putsWorld.2.1 142 = .ok (.aload_n 0, 1) := by decide +kernel
theorem d_M_putsWorld_143 : decode y_M_putsWorld.2.1 143 = .ok (.getfield 16, 3) := by decide +kernel
theorem d_M_putsWorld_146 : decode y_M_putsWorld.2.1 146 = .ok (.getfield 310, 3) := by decide +kernel
theorem d_M_putsWorld_149 : decode y_M_putsWorld.2.1 149 = .ok (.iload_n 1, 1) := by decide +kernel
theorem d_M_putsWorld_150 : decode y_M_putsWorld.2.1 150 = .ok (.iaload, 1) := by decide +kernel
theorem d_M_putsWorld_151 : decode y_M_putsWorld.2.1 151 = .ok (.iconst 1, 1) := by decide +kernel
theorem d_M_putsWorld_152 : decode y_M_putsWorld.2.1 152 = .ok (.invokevirtual 337, 3) := by decide +kernel
theorem d_M_putsWorld_155 : decode y_M_putsWorld.2.1 155 = .ok (.iconst 0, 1) := by decide +kernel
theorem d_M_putsWorld_156 : decode y_M_putsWorld.2.1 156 = .ok (.istore_n 2, 1) := by decide +kernel
theorem d_M_putsWorld_157 : decode y_M_putsWorld.2.1 157 = .ok (.iload_n 2, 1) := by decide +kernel
theorem d_M_putsWorld_158 : decode y_M_putsWorld.2.1 158 = .ok (.aload_n 0, 1) := by decide +kernel
theorem d_M_putsWorld_159 : decode y_M_putsWorld.2.1 159 = .ok (.getfield 16, 3) := by decide +kernel
theorem d_M_putsWorld_162 : decode y_M_putsWorld.2.1 162 = .ok (.getfield 310, 3) := by decide +kernel
theorem d_M_putsWorld_165 : decode y_M_putsWorld.2.1 165 = .ok (.iload_n 1, 1) := by decide +kernel
theorem d_M_putsWorld_166 : decode y_M_putsWorld.2.1 166 = .ok (.iaload, 1) := by decide +kernel
theorem d_M_putsWorld_167 : decode y_M_putsWorld.2.1 167 = .ok (.if_icmp .ge 27, 3) := by decide +kernel
theorem d_M_putsWorld_170 : decode y_M_putsWorld.2.1 170 = .ok (.aload_n 0, 1) := by decide +kernel
theorem d_M_putsWorld_171 : decode y_M_putsWorld.2.1 171 = .ok (.aload_n 0, 1) := by decide +kernel
theorem d_M_putsWorld_172 : decode y_M_putsWorld.2.1 172 = .ok (.getfield 16, 3) := by decide +kernel
theorem d_M_putsWorld_175 : decode y_M_putsWorld.2.1 175 = .ok (.getfield 344, 3) := by decide +kernel
theorem d_M_putsWorld_178 : decode y_M_putsWorld.2.1 178 = .ok (.iconst 4, 1) := by decide +kernel
theorem d_M_putsWorld_179 : decode y_M_putsWorld.2.1 179 = .ok (.iload_n 1, 1) := by decide +kernel
theorem d_M_putsWorld_180 : decode y_M_putsWorld.2.1 180 = .ok (.imul, 1) := by decide +kernel
theorem d_M_putsWorld_181 : decode y_M_putsWorld.2.1 181 = .ok (.iload_n 2, 1) := by decide +kernel
theorem d_M_putsWorld_182 : decode y_M_putsWorld.2.1 182 = .ok (.iadd, 1) := by decide +kernel
theorem d_M_putsWorld_183 : decode y_M_putsWorld.2.1 183 = .ok (.iaload, 1) := by decide +kernel
theorem d_M_putsWorld_184 : decode y_M_putsWorld.2.1 184 = .ok (.iconst 1, 1) := by decide +kernel
theorem d_M_putsWorld_185 : decode y_M_putsWorld.2.1 185 = .ok (.invokevirtual 337, 3) := by decide +kernel
theorem d_M_putsWorld_188 : decode y_M_putsWorld.2.1 188 = .ok (.iinc 2 1, 3) := by decide +kernel
theorem d_M_putsWorld_191 : decode y_M_putsWorld.2.1 191 = .ok (.goto (-34), 3) := by decide +kernel
theorem d_M_putsWorld_194 : decode y_M_putsWorld.2.1 194 = .ok (.iinc 1 1, 3) := by decide +kernel
theorem d_M_putsWorld_197 : decode y_M_putsWorld.2.1 197 = .ok (.goto (-67), 3) := by decide +kernel
theorem d_M_putsWorld_200 : decode y_M_putsWorld.2.1 200 = .ok (.aload_n 0, 1) := by decide +kernel
theorem d_M_putsWorld_201 : decode y_M_putsWorld.2.1 201 = .ok (.aload_n 0, 1) := by decide +kernel
theorem d_M_putsWorld_202 : decode y_M_putsWorld.2.1 202 = .ok (.getfield 37, 3) := by decide +kernel
theorem d_M_putsWorld_205 : decode y_M_putsWorld.2.1 205 = .ok (.getfield 145, 3) := by decide +kernel
theorem d_M_putsWorld_208 : decode y_M_putsWorld.2.1 208 = .ok (.iconst 4, 1) := by decide +kernel
theorem d_M_putsWorld_209 : decode y_M_putsWorld.2.1 209 = .ok (.invokevirtual 337, 3) := by decide +kernel
theorem d_M_putsWorld_212 : decode y_M_putsWorld.2.1 212 = .ok (.aload_n 0, 1) := by decide +kernel
theorem d_M_putsWorld_213 : decode y_M_putsWorld.2.1 213 = .ok (.aload_n 0, 1) := by decide +kernel
theorem d_M_putsWorld_214 : decode y_M_putsWorld.2.1 214 = .ok (.getfield 37, 3) := by decide +kernel
theorem d_M_putsWorld_217 : decode y_M_putsWorld.2.1 217 = .ok (.getfield 126, 3) := by decide +kernel
theorem d_M_putsWorld_220 : decode y_M_putsWorld.2.1 220 = .ok (.iconst 4, 1) := by decide +kernel
theorem d_M_putsWorld_221 : decode y_M_putsWorld.2.1 221 = .ok (.invokevirtual 337, 3) := by decide +kernel
theorem d_M_putsWorld_224 : decode y_M_putsWorld.2.1 224 = .ok (.aload_n 0, 1) := by decide +kernel
theorem d_M_putsWorld_225 : decode y_M_putsWorld.2.1 225 = .ok (.aload_n 0, 1) := by decide +kernel
theorem d_M_putsWorld_226 : decode y_M_putsWorld.2.1 226 = .ok (.getfield 37, 3) := by decide +kernel
theorem d_M_putsWorld_229 : decode y_M_putsWorld.2.1 229 = .ok (.getfield 317, 3) := by decide +kernel
theorem d_M_putsWorld_232 : decode y_M_putsWorld.2.1 232 = .ok (.iconst 4, 1) := by decide +kernel
theorem d_M_putsWorld_233 : decode y_M_putsWorld.2.1 233 = .ok (.invokevirtual 337, 3) := by decide +kernel
theorem d_M_putsWorld_236 : decode y_M_putsWorld.2.1 236 = .ok (.aload_n 0, 1) := by decide +kernel
theorem d_M_putsWorld_237 : decode y_M_putsWorld.2.1 237 = .ok (.aload_n 0, 1) := by decide +kernel
theorem d_M_putsWorld_238 : decode y_M_putsWorld.2.1 238 = .ok (.getfield 37, 3) := by decide +kernel
theorem d_M_putsWorld_241 : decode y_M_putsWorld.2.1 241 = .ok (.getfield 320, 3) := by decide +kernel
theorem d_M_putsWorld_244 : decode y_M_putsWorld.2.1 244 = .ok (.iconst 4, 1) := by decide +kernel
theorem d_M_putsWorld_245 : decode y_M_putsWorld.2.1 245 = .ok (.invokevirtual 337, 3) := by decide +kernel
theorem d_M_putsWorld_248 : decode y_M_putsWorld.2.1 248 = .ok (.iconst 0, 1) := by decide +kernel
theorem d_M_putsWorld_249 : decode y_M_putsWorld.2.1 249 = .ok (.istore_n 1, 1) := by decide +kernel
theorem d_M_putsWorld_250 : decode y_M_putsWorld.2.1 250 = .ok (.iload_n 1, 1) := by decide +kernel
theorem d_M_putsWorld_251 : decode y_M_putsWorld.2.1 251 = .ok (.sipush 256, 3) := by decide +kernel
theorem d_M_putsWorld_254 : decode y_M_putsWorld.2.1 254 = .ok (.if_icmp .ge 160, 3) := by decide +kernel
theorem d_M_putsWorld_257 : decode y_M_putsWorld.2.1 257 = .ok (.aload_n 0, 1) := by decide +kernel
theorem d_M_putsWorld_258 : decode y_M_putsWorld.2.1 258 = .ok (.aload_n 0, 1) := by decide +kernel
theorem d_M_putsWorld_259 : decode y_M_putsWorld.2.1 259 = .ok (.getfield 37, 3) := by decide +kernel
theorem d_M_putsWorld_262 : decode y_M_putsWorld.2.1 262 = .ok (.getfield 347, 3) := by decide +kernel
theorem d_M_putsWorld_265 : decode y_M_putsWorld.2.1 265 = .ok (.iload_n 1, 1) := by decide +kernel
theorem d_M_putsWorld_266 : decode y_M_putsWorld.2.1 266 = .ok (.iaload, 1) := by decide +kernel
theorem d_M_putsWorld_267 : decode y_M_putsWorld.2.1 267 = .ok (.iconst 4, 1) := by decide +kernel
theorem d_M_putsWorld_268 : decode y_M_putsWorld.2.1 268 = .ok (.invokevirtual 337, 3) := by decide +kernel
theorem d_M_putsWorld_271 : decode y_M_putsWorld.2.1 271 = .ok (.aload_n 0, 1) := by decide +kernel
theorem d_M_putsWorld_272 : decode y_M_putsWorld.2.1 272 = .ok (.aload_n 0, 1) := by decide +kernel
theorem d_M_putsWorld_273 : decode y_M_putsWorld.2.1 273 = .ok (.getfield 37, 3) := by decide +kernel
theorem d_M_putsWorld_276 : decode y_M_putsWorld.2.1 276 = .ok (.getfield 158, 3) := by decide +kernel
theorem d_M_putsWorld_279 : decode y_M_putsWorld.2.1 279 = .ok (.iload_n 1, 1) := by decide +kernel
theorem d_M_putsWorld_280 : decode y_M_putsWorld.2.1 280 = .ok (.baload, 1) := by decide +kernel
theorem d_M_putsWorld_281 : decode y_M_putsWorld.2.1 281 = .ok (.ifCond .eq 7, 3) := by decide +kernel
theorem d_M_putsWorld_284 : decode y_M_putsWorld.2.1 284 = .ok (.iconst 1, 1) := by decide +kernel
theorem d_M_putsWorld_285 : decode y_M_putsWorld.2.1 285 = .ok (.goto 4, 3) := by decide +kernel
theorem d_M_putsWorld_288 : decode y_M_putsWorld.2.1 288 = .ok (.iconst 0, 1) := by decide +kernel
theorem d_M_putsWorld_289 : decode y_M_putsWorld.2.1 289 = .ok (.iconst 1, 1) := by decide +kernel
theorem d_M_putsWorld_290 : decode y_M_putsWorld.2.1 290 = .ok (.invokevirtual 337, 3) := by decide +kernel
theorem d_M_putsWorld_293 : decode y_M_putsWorld.2.1 293 = .ok (.aload_n 0, 1) := by decide +kernel
theorem d_M_putsWorld_294 : decode y_M_putsWorld.2.1 294 = .ok (.getfield 37, 3) := by decide +kernel
theorem d_M_putsWorld_297 : decode y_M_putsWorld.2.1 297 = .ok (.getfield 158, 3) := by decide +kernel
theorem d_M_putsWorld_300 : decode y_M_putsWorld.2.1 300 = .ok (.iload_n 1, 1) := by decide +kernel
theorem d_M_putsWorld_301 : decode y_M_putsWorld.2.1 301 = .ok (.baload, 1) := by decide +kernel
theorem d_M_putsWorld_302 : decode y_M_putsWorld.2.1 302 = .ok (.ifCond .ne 6, 3) := by decide +kernel
theorem d_M_putsWorld_305 : decode y_M_putsWorld.2.1 305 = .ok (.goto 103, 3) := by decide +kernel
theorem d_M_putsWorld_308 : decode y_M_putsWorld.2.1 308 = .ok (.aload_n 0, 1) := by decide +kernel
theorem d_M_putsWorld_309 : decode y_M_putsWorld.2.1 309 = .ok (.aload_n 0, 1) := by decide +kernel
theorem d_M_putsWorld_310 : decode y_M_putsWorld.2.1 310 = .ok (.getfield 37, 3) := by decide +kernel
theorem d_M_putsWorld_313 : decode y_M_putsWorld.2.1 313 = .ok (.getfield 157, 3) := by decide +kernel
theorem d_M_putsWorld_316 : decode y_M_putsWorld.2.1 316 = .ok (.iload_n 1, 1) := by decide +kernel
theorem d_M_putsWorld_317 : decode y_M_putsWorld.2.1 317 = .ok (.iaload, 1) := by decide +kernel
theorem d_M_putsWorld_318 : decode y_M_putsWorld.2.1 318 = .ok (.iconst 2, 1) := by decide +kernel
theorem d_M_putsWorld_319 : decode y_M_putsWorld.2.1 319 = .ok (.invokevirtual 337, 3) := by decide +kernel
theorem d_M_putsWorld_322 : decode y_M_putsWorld.2.1 322 = .ok (.iconst 0, 1) := by decide +kernel
theorem d_M_putsWorld_323 : decode y_M_putsWorld.2.1 323 = .ok (.istore_n 2, 1) := by decide +kernel
theorem d_M_putsWorld_324 : decode y_M_putsWorld.2.1 324 = .ok (.iload_n 2, 1) := by decide +kernel
theorem d_M_putsWorld_325 : decode y_M_putsWorld.2.1 325 = .ok (.aload_n 0, 1) := by decide +kernel
theorem d_M_putsWorld_326 : decode y_M_putsWorld.2.1 326 = .ok (.getfield 16, 3) := by decide +kernel
theorem d_M_putsWorld_329 : decode y_M_putsWorld.2.1 329 = .ok (.getfield 161, 3) := by decide +kernel
theorem d_M_putsWorld_332 : decode y_M_putsWorld.2.1 332 = .ok (.if_icmp .ge 76, 3) := by decide +kernel
theorem d_M_putsWorld_335 : decode y_M_putsWorld.2.1 335 = .ok (.aload_n 0, 1) := by decide +kernel
theorem d_M_putsWorld_336 : decode y_M_putsWorld.2.1 336 = .ok (.getfield 16, 3) := by decide +kernel
theorem d_M_putsWorld_339 : decode y_M_putsWorld.2.1 339 = .ok (.getfield 171, 3) := by decide +kernel
theorem d_M_putsWorld_342 : decode y_M_putsWorld.2.1 342 = .ok (.iload_n 2, 1) := by decide +kernel
theorem d_M_putsWorld_343 : decode y_M_putsWorld.2.1 343 = .ok (.iaload, 1) := by decide +kernel
theorem d_M_putsWorld_344 : decode y_M_putsWorld.2.1 344 = .ok (.istore_n 3, 1) := by decide +kernel
theorem d_M_putsWorld_345 : decode y_M_putsWorld.2.1 345 = .ok (.iload_n 3, 1) := by decide +kernel
theorem d_M_putsWorld_346 : decode y_M_putsWorld.2.1 346 = .ok (.aload_n 0, 1) := by decide +kernel
theorem d_M_putsWorld_347 : decode y_M_putsWorld.2.1 347 = .ok (.getfield 16, 3) := by decide +kernel
theorem d_M_putsWorld_350 : decode y_M_putsWorld.2.1 350 = .ok (.getfield 171, 3) := by decide +kernel
theorem d_M_putsWorld_353 : decode y_M_putsWorld.2.1 353 = .ok (.iload_n 2, 1) := by decide +kernel
theorem d_M_putsWorld_354 : decode y_M_putsWorld.2.1 354 = .ok (.iconst 1, 1) := by decide +kernel
theorem d_M_putsWorld_355 : decode y_M_putsWorld.2.1 355 = .ok (.iadd, 1) := by decide +kernel
theorem d_M_putsWorld_356 : decode y_M_putsWorld.2.1 356 = .ok (.iaload, 1) := by decide +kernel
theorem d_M_putsWorld_357 : decode y_M_putsWorld.2.1 357 = .ok (.if_icmp .ge 45, 3) := by decide +kernel
theorem d_M_putsWorld_360 : decode y_M_putsWorld.2.1 360 = .ok (.aload_n 0, 1) := by decide +kernel
theorem d_M_putsWorld_361 : decode y_M_putsWorld.2.1 361 = .ok (.getfield 37, 3) := by decide +kernel
theorem d_M_putsWorld_364 : decode y_M_putsWorld.2.1 364 = .ok (.getfield 157, 3) := by decide +kernel
theorem d_M_putsWorld_367 : decode y_M_putsWorld.2.1 367 = .ok (.iload_n 1, 1) := by decide +kernel
theorem d_M_putsWorld_368 : decode y_M_putsWorld.2.1 368 = .ok (.iaload, 1) := by decide +kernel
theorem d_M_putsWorld_369 : decode y_M_putsWorld.2.1 369 = .ok (.iload_n 2, 1) := by decide +kernel
theorem d_M_putsWorld_370 : decode y_M_putsWorld.2.1 370 = .ok (.ishr, 1) := by decide +kernel
theorem d_M_putsWorld_371 : decode y_M_putsWorld.2.1 371 = .ok (.iconst 1, 1) := by decide +kernel
theorem d_M_putsWorld_372 : decode y_M_putsWorld.2.1 372 = .ok (.iand, 1) := by decide +kernel
theorem d_M_putsWorld_373 : decode y_M_putsWorld.2.1 373 = .ok (.iconst 1, 1) := by decide +kernel
theorem d_M_putsWorld_374 : decode y_M_putsWorld.2.1 374 = .ok (.if_icmp .ne 28, 3) := by decide +kernel
theorem d_M_putsWorld_377 : decode y_M_putsWorld.2.1 377 = .ok (.aload_n 0, 1) := by decide +kernel
theorem d_M_putsWorld_378 : decode y_M_putsWorld.2.1 378 = .ok (.aload_n 0, 1) := by decide +kernel
theorem d_M_putsWorld_379 : decode y_M_putsWorld.2.1 379 = .ok (.getfield 37, 3) := by decide +kernel
theorem d_M_putsWorld_382 : decode y_M_putsWorld.2.1 382 = .ok (.getfield 181, 3) := by decide +kernel
theorem d_M_putsWorld_385 : decode y_M_putsWorld.2.1 385 = .ok (.bipush 48, 2) := by decide +kernel
theorem d_M_putsWorld_387 : decode y_M_putsWorld.2.1 387 = .ok (.iload_n 1, 1) := by decide +kernel
theorem d_M_putsWorld_388 : decode y_M_putsWorld.2.1 388 = .ok (.imul, 1) := by decide +kernel
theorem d_M_putsWorld_389 : decode y_M_putsWorld.2.1 389 = .ok (.iload_n 3, 1) := by decide +kernel
theorem d_M_putsWorld_390 : decode y_M_putsWorld.2.1 390 = .ok (.iadd, 1) := by decide +kernel
theorem d_M_putsWorld_391 : decode y_M_putsWorld.2.1 391 = .ok (.iaload, 1) := by decide +kernel
theorem d_M_putsWorld_392 : decode y_M_putsWorld.2.1 392 = .ok (.iconst 4, 1) := by decide +kernel
theorem d_M_putsWorld_393 : decode y_M_putsWorld.2.1 393 = .ok (.invokevirtual 337, 3) := by decide +kernel
theorem d_M_putsWorld_396 : decode y_M_putsWorld.2.1 396 = .ok (.iinc 3 1, 3) := by decide +kernel
theorem d_M_putsWorld_399 : decode y_M_putsWorld.2.1 399 = .ok (.goto (-54), 3) := by decide +kernel
theorem d_M_putsWorld_402 : decode y_M_putsWorld.2.1 402 = .ok (.iinc 2 1, 3) := by decide +kernel
theorem d_M_putsWorld_405 : decode y_M_putsWorld.2.1 405 = .ok (.goto (-81), 3) := by decide +kernel
theorem d_M_putsWorld_408 : decode y_M_putsWorld.2.1 408 = .ok (.iinc 1 1, 3) := by decide +kernel
theorem d_M_putsWorld_411 : decode y_M_putsWorld.2.1 411 = .ok (.goto (-161), 3) := by decide +kernel
theorem d_M_putsWorld_414 : decode y_M_putsWorld.2.1 414 = .ok (.aload_n 0, 1) := by decide +kernel
theorem d_M_putsWorld_415 : decode y_M_putsWorld.2.1 415 = .ok (.aload_n 0, 1) := by decide +kernel
theorem d_M_putsWorld_416 : decode y_M_putsWorld.2.1 416 = .ok (.getfield 37, 3) := by decide +kernel
theorem d_M_putsWorld_419 : decode y_M_putsWorld.2.1 419 = .ok (.getfield 195, 3) := by decide +kernel
theorem d_M_putsWorld_422 : decode y_M_putsWorld.2.1 422 = .ok (.iconst 2, 1) := by decide +kernel
theorem d_M_putsWorld_423 : decode y_M_putsWorld.2.1 423 = .ok (.invokevirtual 337, 3) := by decide +kernel
theorem d_M_putsWorld_426 : decode y_M_putsWorld.2.1 426 = .ok (.iconst 0, 1) := by decide +kernel
theorem d_M_putsWorld_427 : decode y_M_putsWorld.2.1 427 = .ok (.istore_n 1, 1) := by decide +kernel
theorem d_M_putsWorld_428 : decode y_M_putsWorld.2.1 428 = .ok (.iload_n 1, 1) := by decide +kernel
theorem d_M_putsWorld_429 : decode y_M_putsWorld.2.1 429 = .ok (.aload_n 0, 1) := by decide +kernel
theorem d_M_putsWorld_430 : decode y_M_putsWorld.2.1 430 = .ok (.getfield 37, 3) := by decide +kernel
theorem d_M_putsWorld_433 : decode y_M_putsWorld.2.1 433 = .ok (.getfield 195, 3) := by decide +kernel
theorem d_M_putsWorld_436 : decode y_M_putsWorld.2.1 436 = .ok (.if_icmp .ge 98, 3) := by decide +kernel
theorem d_M_putsWorld_439 : decode y_M_putsWorld.2.1 439 = .ok (.aload_n 0, 1) := by decide +kernel
theorem d_M_putsWorld_440 : decode y_M_putsWorld.2.1 440 = .ok (.aload_n 0, 1) := by decide +kernel
theorem d_M_putsWorld_441 : decode y_M_putsWorld.2.1 441 = .ok (.getfield 37, 3) := by decide +kernel
theorem d_M_putsWorld_444 : decode y_M_putsWorld.2.1 444 = .ok (.getfield 201, 3) := by decide +kernel
theorem d_M_putsWorld_447 : decode y_M_putsWorld.2.1 447 = .ok (.iload_n 1, 1) := by decide +kernel
theorem d_M_putsWorld_448 : decode y_M_putsWorld.2.1 448 = .ok (.iaload, 1) := by decide +kernel
theorem d_M_putsWorld_449 : decode y_M_putsWorld.2.1 449 = .ok (.iconst 1, 1) := by decide +kernel
theorem d_M_putsWorld_450 : decode y_M_putsWorld.2.1 450 = .ok (.invokevirtual 337, 3) := by decide +kernel
theorem d_M_putsWorld_453 : decode y_M_putsWorld.2.1 453 = .ok (.aload_n 0, 1) := by decide +kernel
theorem d_M_putsWorld_454 : decode y_M_putsWorld.2.1 454 = .ok (.aload_n 0, 1) := by decide +kernel
theorem d_M_putsWorld_455 : decode y_M_putsWorld.2.1 455 = .ok (.getfield 37, 3) := by decide +kernel
theorem d_M_putsWorld_458 : decode y_M_putsWorld.2.1 458 = .ok (.getfield 208, 3) := by decide +kernel
theorem d_M_putsWorld_461 : decode y_M_putsWorld.2.1 461 = .ok (.iload_n 1, 1) := by decide +kernel
theorem d_M_putsWorld_462 : decode y_M_putsWorld.2.1 462 = .ok (.iaload, 1) := by decide +kernel
theorem d_M_putsWorld_463 : decode y_M_putsWorld.2.1 463 = .ok (.iconst 4, 1) := by decide +kernel
theorem d_M_putsWorld_464 : decode y_M_putsWorld.2.1 464 = .ok (.invokevirtual 337, 3) := by decide +kernel
theorem d_M_putsWorld_467 : decode y_M_putsWorld.2.1 467 = .ok (.aload_n 0, 1) := by decide +kernel
theorem d_M_putsWorld_468 : decode y_M_putsWorld.2.1 468 = .ok (.aload_n 0, 1) := by decide +kernel
theorem d_M_putsWorld_469 : decode y_M_putsWorld.2.1 469 = .ok (.getfield 37, 3) := by decide +kernel
theorem d_M_putsWorld_472 : decode y_M_putsWorld.2.1 472 = .ok (.getfield 211, 3) := by decide +kernel
theorem d_M_putsWorld_475 : decode y_M_putsWorld.2.1 475 = .ok (.iload_n 1, 1) := by decide +kernel
theorem d_M_putsWorld_476 : decode y_M_putsWorld.2.1 476 = .ok (.iaload, 1) := by decide +kernel
theorem d_M_putsWorld_477 : decode y_M_putsWorld.2.1 477 = .ok (.iconst 4, 1) := by decide +kernel
theorem d_M_putsWorld_478 : decode y_M_putsWorld.2.1 478 = .ok (.invokevirtual 337, 3) := by decide +kernel
theorem d_M_putsWorld_481 : decode y_M_putsWorld.2.1 481 = .ok (.iconst 0, 1) := by decide +kernel
theorem d_M_putsWorld_482 : decode y_M_putsWorld.2.1 482 = .ok (.istore_n 2, 1) := by decide +kernel
theorem d_M_putsWorld_483 : decode y_M_putsWorld.2.1 483 = .ok (.iload_n 2, 1) := by decide +kernel
theorem d_M_putsWorld_484 : decode y_M_putsWorld.2.1 484 = .ok (.aload_n 0, 1) := by decide +kernel
theorem d_M_putsWorld_485 : decode y_M_putsWorld.2.1 485 = .ok (.getfield 16, 3) := by decide +kernel
theorem d_M_putsWorld_488 : decode y_M_putsWorld.2.1 488 = .ok (.getfield 310, 3) := by decide +kernel
theorem d_M_putsWorld_491 : decode y_M_putsWorld.2.1 491 = .ok (.aload_n 0, 1) := by decide +kernel
theorem d_M_putsWorld_492 : decode y_M_putsWorld.2.1 492 = .ok (.getfield 37, 3) := by decide +kernel
theorem d_M_putsWorld_495 : decode y_M_putsWorld.2.1 495 = .ok (.getfield 201, 3) := by decide +kernel
theorem d_M_putsWorld_498 : decode y_M_putsWorld.2.1 498 = .ok (.iload_n 1, 1) := by decide +kernel
theorem d_M_putsWorld_499 : decode y_M_putsWorld.2.1 499 = .ok (.iaload, 1) := by decide +kernel
theorem d_M_putsWorld_500 : decode y_M_putsWorld.2.1 500 = .ok (.iaload, 1) := by decide +kernel
theorem d_M_putsWorld_501 : decode y_M_putsWorld.2.1 501 = .ok (.if_icmp .ge 27, 3) := by decide +kernel
theorem d_M_putsWorld_504 : decode y_M_putsWorld.2.1 504 = .ok (.aload_n 0, 1) := by decide +kernel
theorem d_M_putsWorld_505 : decode y_M_putsWorld.2.1 505 = .ok (.aload_n 0, 1) := by decide +kernel
theorem d_M_putsWorld_506 : decode y_M_putsWorld.2.1 506 = .ok (.getfield 37, 3) := by decide +kernel
theorem d_M_putsWorld_509 : decode y_M_putsWorld.2.1 509 = .ok (.getfield 214, 3) := by decide +kernel
theorem d_M_putsWorld_512 : decode y_M_putsWorld.2.1 512 = .ok (.iconst 4, 1) := by decide +kernel
theorem d_M_putsWorld_513 : decode y_M_putsWorld.2.1 513 = .ok (.iload_n 1, 1) := by decide +kernel
theorem d_M_putsWorld_514 : decode y_M_putsWorld.2.1 514 = .ok (.imul, 1) := by decide +kernel
theorem d_M_putsWorld_515 : decode y_M_putsWorld.2.1 515 = .ok (.iload_n 2, 1) := by decide +kernel
theorem d_M_putsWorld_516 : decode y_M_putsWorld.2.1 516 = .ok (.iadd, 1) := by decide +kernel
theorem d_M_putsWorld_517 : decode y_M_putsWorld.2.1 517 = .ok (.iaload, 1) := by decide +kernel
theorem d_M_putsWorld_518 : decode y_M_putsWorld.2.1 518 = .ok (.iconst 4, 1) := by decide +kernel
theorem d_M_putsWorld_519 : decode y_M_putsWorld.2.1 519 = .ok (.invokevirtual 337, 3) := by decide +kernel
theorem d_M_putsWorld_522 : decode y_M_putsWorld.2.1 522 = .ok (.iinc 2 1, 3) := by decide +kernel
theorem d_M_putsWorld_525 : decode y_M_putsWorld.2.1 525 = .ok (.goto (-42), 3) := by decide +kernel
theorem d_M_putsWorld_528 : decode y_M_putsWorld.2.1 528 = .ok (.iinc 1 1, 3) := by decide +kernel
theorem d_M_putsWorld_531 : decode y_M_putsWorld.2.1 531 = .ok (.goto (-103), 3) := by decide +kernel
theorem d_M_putsWorld_534 : decode y_M_putsWorld.2.1 534 = .ok (.return_, 1) := by decide +kernel
theorem s_M_putsWorld : ab_Stat y_M_putsWorld 0 := ⟨(k13 31 rfl rfl), (k1 19 rfl rfl), ⟨by decide, by decide⟩, by decide +kernel⟩
theorem i_M_putsWorld : Cond.instanceMethod y_M_putsWorld.1 ∈ ab_T := (k13 30 rfl rfl)
theorem v_M_putsWorld : Cond.selects "WorldEngineModel" y_M_putsWorld.1 y_M_putsWorld.1 ∈ ab_T := ab_s (List.mem_of_getElem? (i := 209) rfl) rfl
def B_M_putsWorld_483 (N : Nat) (p0 : Nat) (kq428 : Int32 → Hp → Option (Unit × Hp)) : Nat → Int32 → Int32 → Hp → Option (Unit × Hp)
  | 0, _, _, _ => none
  | n + 1, l1, l2, H =>
    ck (H.sh[p0]? = some (12, 0)) <|
    rf (H.P p0 3) fun a114 =>
    ck (H.sh[a114]? = some (14, 0)) <|
    rf (H.P a114 23) fun a117 =>
    rf (H.P p0 9) fun a119 =>
    ck (H.sh[a119]? = some (13, 0)) <|
    rf (H.P a119 9) fun a122 =>
    ar H 100 a122 fun n124 =>
    ck (inb l1 n124) <|
    bnd ((H.D a122 (l1).toNatClampNeg)) fun x127 =>
    ar H 100 a117 fun n128 =>
    ck (inb x127 n128) <|
    bnd ((H.D a117 (x127).toNatClampNeg)) fun x131 =>
    if x131 ≤ l2 then
    kq428 (l1 + 1) H
    else
    rf (H.P p0 9) fun a133 =>
    ck (H.sh[a133]? = some (13, 0)) <|
    rf (H.P a133 12) fun a136 =>
    ar H 100 a136 fun n138 =>
    ck (inb (((4 : Int32) * l1) + l2) n138) <|
    bnd ((H.D a136 ((((4 : Int32) * l1) + l2)).toNatClampNeg)) fun x141 =>
    bC (F_M_puts N p0 x141 (4 : Int32) H) fun v143 H144 =>
    B_M_putsWorld_483 N p0 kq428 n l1 (l2 + 1) H144
termination_by structural n => n
set_option maxRecDepth 20000 in
set_option maxHeartbeats 2000000 in
theorem mB_M_putsWorld_483 {N : Nat} {p0 : Nat} {kq428 : Int32 → Hp → Option (Unit × Hp)} (hm428 : ∀ (l1 : Int32) (H : Hp) (r : Unit × Hp), kq428 l1 H = some r → Sa H r.2) : ∀ (n : Nat) (l1 : Int32) (l2 : Int32) (H : Hp) (r : Unit × Hp), B_M_putsWorld_483 N p0 kq428 n l1 l2 H = some r → Sa H r.2 := by
  intro n
  induction n with
  | zero => intro l1 l2 H r hF; rw [B_M_putsWorld_483] at hF; cases hF
  | succ n ih =>
    intro l1 l2 H r hF
    rw [B_M_putsWorld_483] at hF
    have hm := Sa.rf H
    obtain ⟨q145, hG⟩ := ck_s hF; clear hF
    obtain ⟨a146, e147, hF⟩ := rf_s hG; clear hG
    obtain ⟨q148, hG⟩ := ck_s hF; clear hF
    obtain ⟨a149, e150, hF⟩ := rf_s hG; clear hG
    obtain ⟨a151, e152, hG⟩ := rf_s hF; clear hF
    obtain ⟨q153, hF⟩ := ck_s hG; clear hG
    obtain ⟨a154, e155, hG⟩ := rf_s hF; clear hF
    obtain ⟨n156, q157, hF⟩ := ar_s hG; clear hG
    obtain ⟨q158, hG⟩ := ck_s hF; clear hF
    obtain ⟨x159, -, hF⟩ := bnd_g hG; clear hG
    obtain ⟨n160, q161, hG⟩ := ar_s hF; clear hF
    obtain ⟨q162, hF⟩ := ck_s hG; clear hG
    obtain ⟨x163, -, hG⟩ := bnd_g hF; clear hF
    rcases ite_s hG with ⟨q_14, hF⟩ | ⟨q_14, hF⟩
    · clear hG
      exact hm.tr (hm428 (l1 + 1) H r hF)
    · clear hG
      obtain ⟨a165, e166, hG⟩ := rf_s hF; clear hF
      obtain ⟨q167, hF⟩ := ck_s hG; clear hG
      obtain ⟨a168, e169, hG⟩ := rf_s hF; clear hF
      obtain ⟨n170, q171, hF⟩ := ar_s hG; clear hG
      obtain ⟨q172, hG⟩ := ck_s hF; clear hF
      obtain ⟨x173, -, hF⟩ := bnd_g hG; clear hG
      obtain ⟨v175, H176, z174, hG⟩ := bC_s hF; clear hF
      replace hm : Sa H H176 := hm.tr (m_M_puts z174)
      exact hm.tr (ih l1 (l2 + 1) H176 r hG)
set_option maxRecDepth 20000 in
set_option maxHeartbeats 2000000 in
theorem kB_M_putsWorld_483 {N : Nat} {p0 : Nat} {kq428 : Int32 → Hp → Option (Unit × Hp)} (hm428 : ∀ (l1 : Int32) (H : Hp) (r : Unit × Hp), kq428 l1 H = some r → Sa H r.2) (hk428 : ∀ (l1 : Int32) (H : Hp) (r : Unit × Hp), kq428 l1 H = some r → ab_V y_M_putsWorld { frames := 1, cells := 0, slots := 0, locals := 24 } (po (.returned none) r.2) 0 0 0 0 428 [some (.ref p0), some (.int l1), none, none] [] (hpw H)) : ∀ (n : Nat) (l1 : Int32) (l2 : Int32) (H : Hp) (r : Unit × Hp), B_M_putsWorld_483 N p0 kq428 n l1 l2 H = some r → ab_V y_M_putsWorld { frames := 1, cells := 0, slots := 0, locals := 24 } (po (.returned none) r.2) 0 0 0 0 483 [some (.ref p0), some (.int l1), some (.int l2), none] [] (hpw H) := by
  intro n
  induction n with
  | zero => intro l1 l2 H r hF; rw [B_M_putsWorld_483] at hF; cases hF
  | succ n ih =>
    intro l1 l2 H r hF
    rw [B_M_putsWorld_483] at hF
    refine ab_iload_n d_M_putsWorld_483 rfl rfl ?_
    refine ab_aload_n d_M_putsWorld_484 rfl rfl rfl ?_
    obtain ⟨q113, hG⟩ := ck_s hF; clear hF
    obtain ⟨a114, e115, hF⟩ := rf_s hG; clear hG
    refine hp_getR (f := 3) d_M_putsWorld_485 q113 (by decide) rfl (by decide) (k9 236 rfl rfl) rfl e115 ?_
    obtain ⟨q116, hG⟩ := ck_s hF; clear hF
    obtain ⟨a117, e118, hF⟩ := rf_s hG; clear hG
    refine hp_getRN (f := 23) d_M_putsWorld_488 q116 (by decide) rfl (by decide) (k8 200 rfl rfl) rfl e118 ?_
    refine ab_aload_n d_M_putsWorld_491 rfl rfl rfl ?_
    obtain ⟨a119, e120, hG⟩ := rf_s hF; clear hF
    refine hp_getR (f := 9) d_M_putsWorld_492 q113 (by decide) rfl (by decide) (k10 2 rfl rfl) rfl e120 ?_
    obtain ⟨q121, hF⟩ := ck_s hG; clear hG
    obtain ⟨a122, e123, hG⟩ := rf_s hF; clear hF
    refine hp_getRN (f := 9) d_M_putsWorld_495 q121 (by decide) rfl (by decide) (k9 115 rfl rfl) rfl e123 ?_
    refine ab_iload_n d_M_putsWorld_498 rfl rfl ?_
    obtain ⟨n124, q125, hF⟩ := ar_s hG; clear hG
    obtain ⟨q126, hG⟩ := ck_s hF; clear hF
    refine hp_iald d_M_putsWorld_499 tI q125 q126 ?_
    refine ab_topi (fun x127 ex127 => ?_)
    replace hG := bnd_s ex127 hG
    obtain ⟨n128, q129, hF⟩ := ar_s hG; clear hG
    obtain ⟨q130, hG⟩ := ck_s hF; clear hF
    refine hp_iald d_M_putsWorld_500 tI q129 q130 ?_
    refine ab_topi (fun x131 ex131 => ?_)
    replace hG := bnd_s ex131 hG
    refine ab_icmp_ge (tgt := 528) d_M_putsWorld_501 (by decide) (fun q132 => ?_) (fun q132 => ?_)
    · rw [if_pos q132] at hG
      refine ab_iinc (v := l1 + 1) (lv' := [some (.ref p0), some (.int (l1 + 1)), some (.int l2), none]) d_M_putsWorld_528 rfl rfl (by decide) rfl ?_
      refine ab_goto (tgt := 428) d_M_putsWorld_531 (by decide) ?_
      refine ab_le (lv' := [some (.ref p0), some (.int (l1 + 1)), none, none]) ⟨rfl, ⟨rfl, trivial⟩⟩ ?_
      exact hk428 (l1 + 1) H r hG
    · rw [if_neg q132] at hG
      refine ab_aload_n d_M_putsWorld_504 rfl rfl rfl ?_
      refine ab_aload_n d_M_putsWorld_505 rfl rfl rfl ?_
      obtain ⟨a133, e134, hF⟩ := rf_s hG; clear hG
      refine hp_getR (f := 9) d_M_putsWorld_506 q113 (by decide) rfl (by decide) (k10 2 rfl rfl) rfl e134 ?_
      obtain ⟨q135, hG⟩ := ck_s hF; clear hF
      obtain ⟨a136, e137, hF⟩ := rf_s hG; clear hG
      refine hp_getRN (f := 12) d_M_putsWorld_509 q135 (by decide) rfl (by decide) (k9 124 rfl rfl) rfl e137 ?_
      refine ab_iconst (v := 4) d_M_putsWorld_512 (by decide) ?_
      refine ab_iload_n d_M_putsWorld_513 rfl rfl ?_
      refine ab_imul d_M_putsWorld_514 ?_
      refine ab_iload_n d_M_putsWorld_515 rfl rfl ?_
      refine ab_iadd d_M_putsWorld_516 ?_
      obtain ⟨n138, q139, hG⟩ := ar_s hF; clear hF
      obtain ⟨q140, hF⟩ := ck_s hG; clear hG
      refine hp_iald d_M_putsWorld_517 tI q139 q140 ?_
      refine ab_topi (fun x141 ex141 => ?_)
      replace hF := bnd_s ex141 hF
      refine ab_iconst (v := 4) d_M_putsWorld_518 (by decide) ?_
      obtain ⟨v143, H144, z142, hG⟩ := bC_s hF; clear hF
      refine hp_callV_v (H1 := H144) (As := [.int x141, .int 4]) (rest := []) d_M_putsWorld_519 (k_M_puts z142) (ab_mkC s_M_puts (Nat.le_of_ble_eq_true rfl) (Nat.le_of_ble_eq_true rfl) (Nat.le_refl 0) (Nat.le_refl 0)) (k13 32 rfl rfl) i_M_puts v_M_puts q113 (by decide) rfl rfl (Nat.le_of_ble_eq_true rfl) ?_
      have s_13 : Sa H H144 := (m_M_puts z142)
      refine ab_iinc (v := l2 + 1) (lv' := [some (.ref p0), some (.int l1), some (.int (l2 + 1)), none]) d_M_putsWorld_522 rfl rfl (by decide) rfl ?_
      refine ab_goto (tgt := 483) d_M_putsWorld_525 (by decide) ?_
      exact ih l1 (l2 + 1) H144 r hG
def B_M_putsWorld_428 (N : Nat) (p0 : Nat) : Nat → Int32 → Hp → Option (Unit × Hp)
  | 0, _, _ => none
  | n + 1, l1, H =>
    ck (H.sh[p0]? = some (12, 0)) <|
    rf (H.P p0 9) fun a72 =>
    ck (H.sh[a72]? = some (13, 0)) <|
    bnd ((H.D a72 8)) fun x75 =>
    if x75 ≤ l1 then
    some ((), H)
    else
    rf (H.P p0 9) fun a77 =>
    ck (H.sh[a77]? = some (13, 0)) <|
    rf (H.P a77 9) fun a80 =>
    ar H 100 a80 fun n82 =>
    ck (inb l1 n82) <|
    bnd ((H.D a80 (l1).toNatClampNeg)) fun x85 =>
    bC (F_M_puts N p0 x85 (1 : Int32) H) fun v87 H88 =>
    rf (H88.P p0 9) fun a89 =>
    ck (H88.sh[a89]? = some (13, 0)) <|
    rf (H88.P a89 10) fun a92 =>
    ar H88 100 a92 fun n94 =>
    ck (inb l1 n94) <|
    bnd ((H88.D a92 (l1).toNatClampNeg)) fun x97 =>
    bC (F_M_puts N p0 x97 (4 : Int32) H88) fun v99 H100 =>
    rf (H100.P p0 9) fun a101 =>
    ck (H100.sh[a101]? = some (13, 0)) <|
    rf (H100.P a101 11) fun a104 =>
    ar H100 100 a104 fun n106 =>
    ck (inb l1 n106) <|
    bnd ((H100.D a104 (l1).toNatClampNeg)) fun x109 =>
    bC (F_M_puts N p0 x109 (4 : Int32) H100) fun v111 H112 =>
    B_M_putsWorld_483 N p0 (fun l1 H => B_M_putsWorld_428 N p0 n l1 H) N l1 0 H112
termination_by structural n => n
set_option maxRecDepth 20000 in
set_option maxHeartbeats 2000000 in
theorem mB_M_putsWorld_428 {N : Nat} {p0 : Nat} : ∀ (n : Nat) (l1 : Int32) (H : Hp) (r : Unit × Hp), B_M_putsWorld_428 N p0 n l1 H = some r → Sa H r.2 := by
  intro n
  induction n with
  | zero => intro l1 H r hF; rw [B_M_putsWorld_428] at hF; cases hF
  | succ n ih =>
    intro l1 H r hF
    rw [B_M_putsWorld_428] at hF
    have hm := Sa.rf H
    obtain ⟨q177, hG⟩ := ck_s hF; clear hF
    obtain ⟨a178, e179, hF⟩ := rf_s hG; clear hG
    obtain ⟨q180, hG⟩ := ck_s hF; clear hF
    obtain ⟨x181, -, hF⟩ := bnd_g hG; clear hG
    rcases ite_s hF with ⟨q_16, hG⟩ | ⟨q_16, hG⟩
    · clear hF
      have hr := Option.some.inj hG; subst hr
      exact hm
    · clear hF
      obtain ⟨a183, e184, hF⟩ := rf_s hG; clear hG
      obtain ⟨q185, hG⟩ := ck_s hF; clear hF
      obtain ⟨a186, e187, hF⟩ := rf_s hG; clear hG
      obtain ⟨n188, q189, hG⟩ := ar_s hF; clear hF
      obtain ⟨q190, hF⟩ := ck_s hG; clear hG
      obtain ⟨x191, -, hG⟩ := bnd_g hF; clear hF
      obtain ⟨v193, H194, z192, hF⟩ := bC_s hG; clear hG
      replace hm : Sa H H194 := hm.tr (m_M_puts z192)
      obtain ⟨a195, e196, hG⟩ := rf_s hF; clear hF
      obtain ⟨q197, hF⟩ := ck_s hG; clear hG
      obtain ⟨a198, e199, hG⟩ := rf_s hF; clear hF
      obtain ⟨n200, q201, hF⟩ := ar_s hG; clear hG
      obtain ⟨q202, hG⟩ := ck_s hF; clear hF
      obtain ⟨x203, -, hF⟩ := bnd_g hG; clear hG
      obtain ⟨v205, H206, z204, hG⟩ := bC_s hF; clear hF
      replace hm : Sa H H206 := hm.tr (m_M_puts z204)
      obtain ⟨a207, e208, hF⟩ := rf_s hG; clear hG
      obtain ⟨q209, hG⟩ := ck_s hF; clear hF
      obtain ⟨a210, e211, hF⟩ := rf_s hG; clear hG
      obtain ⟨n212, q213, hG⟩ := ar_s hF; clear hF
      obtain ⟨q214, hF⟩ := ck_s hG; clear hG
      obtain ⟨x215, -, hG⟩ := bnd_g hF; clear hF
      obtain ⟨v217, H218, z216, hF⟩ := bC_s hG; clear hG
      replace hm : Sa H H218 := hm.tr (m_M_puts z216)
      exact hm.tr (mB_M_putsWorld_483 ih N l1 0 H218 r hF)
set_option maxRecDepth 20000 in
set_option maxHeartbeats 2000000 in
theorem kB_M_putsWorld_428 {N : Nat} {p0 : Nat} : ∀ (n : Nat) (l1 : Int32) (H : Hp) (r : Unit × Hp), B_M_putsWorld_428 N p0 n l1 H = some r → ab_V y_M_putsWorld { frames := 1, cells := 0, slots := 0, locals := 24 } (po (.returned none) r.2) 0 0 0 0 428 [some (.ref p0), some (.int l1), none, none] [] (hpw H) := by
  intro n
  induction n with
  | zero => intro l1 H r hF; rw [B_M_putsWorld_428] at hF; cases hF
  | succ n ih =>
    intro l1 H r hF
    rw [B_M_putsWorld_428] at hF
    refine ab_iload_n d_M_putsWorld_428 rfl rfl ?_
    refine ab_aload_n d_M_putsWorld_429 rfl rfl rfl ?_
    obtain ⟨q71, hG⟩ := ck_s hF; clear hF
    obtain ⟨a72, e73, hF⟩ := rf_s hG; clear hG
    refine hp_getR (f := 9) d_M_putsWorld_430 q71 (by decide) rfl (by decide) (k10 2 rfl rfl) rfl e73 ?_
    obtain ⟨q74, hG⟩ := ck_s hF; clear hF
    refine hp_getIN (f := 8) d_M_putsWorld_433 q74 (by decide) rfl (by decide) (k9 112 rfl rfl) rfl ?_
    refine ab_topi (fun x75 ex75 => ?_)
    replace hG := bnd_s ex75 hG
    refine ab_icmp_ge (tgt := 534) d_M_putsWorld_436 (by decide) (fun q76 => ?_) (fun q76 => ?_)
    · rw [if_pos q76] at hG
      exact ab_vret d_M_putsWorld_534 rfl (Nat.le_refl _) (Nat.le_refl _) (by have hr := Option.some.inj hG; subst hr; exact ⟨rfl, rfl⟩)
    · rw [if_neg q76] at hG
      refine ab_aload_n d_M_putsWorld_439 rfl rfl rfl ?_
      refine ab_aload_n d_M_putsWorld_440 rfl rfl rfl ?_
      obtain ⟨a77, e78, hF⟩ := rf_s hG; clear hG
      refine hp_getR (f := 9) d_M_putsWorld_441 q71 (by decide) rfl (by decide) (k10 2 rfl rfl) rfl e78 ?_
      obtain ⟨q79, hG⟩ := ck_s hF; clear hF
      obtain ⟨a80, e81, hF⟩ := rf_s hG; clear hG
      refine hp_getRN (f := 9) d_M_putsWorld_444 q79 (by decide) rfl (by decide) (k9 115 rfl rfl) rfl e81 ?_
      refine ab_iload_n d_M_putsWorld_447 rfl rfl ?_
      obtain ⟨n82, q83, hG⟩ := ar_s hF; clear hF
      obtain ⟨q84, hF⟩ := ck_s hG; clear hG
      refine hp_iald d_M_putsWorld_448 tI q83 q84 ?_
      refine ab_topi (fun x85 ex85 => ?_)
      replace hF := bnd_s ex85 hF
      refine ab_iconst (v := 1) d_M_putsWorld_449 (by decide) ?_
      obtain ⟨v87, H88, z86, hG⟩ := bC_s hF; clear hF
      refine hp_callV_v (H1 := H88) (As := [.int x85, .int 1]) (rest := []) d_M_putsWorld_450 (k_M_puts z86) (ab_mkC s_M_puts (Nat.le_of_ble_eq_true rfl) (Nat.le_of_ble_eq_true rfl) (Nat.le_refl 0) (Nat.le_refl 0)) (k13 32 rfl rfl) i_M_puts v_M_puts q71 (by decide) rfl rfl (Nat.le_of_ble_eq_true rfl) ?_
      have s_10 : Sa H H88 := (m_M_puts z86)
      refine ab_aload_n d_M_putsWorld_453 rfl rfl rfl ?_
      refine ab_aload_n d_M_putsWorld_454 rfl rfl rfl ?_
      obtain ⟨a89, e90, hF⟩ := rf_s hG; clear hG
      refine hp_getR (f := 9) d_M_putsWorld_455 (by rw [(s_10).1]; exact q71) (by decide) rfl (by decide) (k10 2 rfl rfl) rfl e90 ?_
      obtain ⟨q91, hG⟩ := ck_s hF; clear hF
      rw [(s_10).1] at q91
      obtain ⟨a92, e93, hF⟩ := rf_s hG; clear hG
      refine hp_getRN (f := 10) d_M_putsWorld_458 (by rw [(s_10).1]; exact q91) (by decide) rfl (by decide) (k9 118 rfl rfl) rfl e93 ?_
      refine ab_iload_n d_M_putsWorld_461 rfl rfl ?_
      obtain ⟨n94, q95, hG⟩ := ar_s hF; clear hF
      rw [(s_10).1] at q95
      obtain ⟨q96, hF⟩ := ck_s hG; clear hG
      refine hp_iald d_M_putsWorld_462 tI (by rw [(s_10).1]; exact q95) q96 ?_
      refine ab_topi (fun x97 ex97 => ?_)
      replace hF := bnd_s ex97 hF
      refine ab_iconst (v := 4) d_M_putsWorld_463 (by decide) ?_
      obtain ⟨v99, H100, z98, hG⟩ := bC_s hF; clear hF
      refine hp_callV_v (H1 := H100) (As := [.int x97, .int 4]) (rest := []) d_M_putsWorld_464 (k_M_puts z98) (ab_mkC s_M_puts (Nat.le_of_ble_eq_true rfl) (Nat.le_of_ble_eq_true rfl) (Nat.le_refl 0) (Nat.le_refl 0)) (k13 32 rfl rfl) i_M_puts v_M_puts (by rw [(s_10).1]; exact q71) (by decide) rfl rfl (Nat.le_of_ble_eq_true rfl) ?_
      have s_11 : Sa H H100 := (s_10).tr (m_M_puts z98)
      refine ab_aload_n d_M_putsWorld_467 rfl rfl rfl ?_
      refine ab_aload_n d_M_putsWorld_468 rfl rfl rfl ?_
      obtain ⟨a101, e102, hF⟩ := rf_s hG; clear hG
      refine hp_getR (f := 9) d_M_putsWorld_469 (by rw [(s_11).1]; exact q71) (by decide) rfl (by decide) (k10 2 rfl rfl) rfl e102 ?_
      obtain ⟨q103, hG⟩ := ck_s hF; clear hF
      rw [(s_11).1] at q103
      obtain ⟨a104, e105, hF⟩ := rf_s hG; clear hG
      refine hp_getRN (f := 11) d_M_putsWorld_472 (by rw [(s_11).1]; exact q103) (by decide) rfl (by decide) (k9 121 rfl rfl) rfl e105 ?_
      refine ab_iload_n d_M_putsWorld_475 rfl rfl ?_
      obtain ⟨n106, q107, hG⟩ := ar_s hF; clear hF
      rw [(s_11).1] at q107
      obtain ⟨q108, hF⟩ := ck_s hG; clear hG
      refine hp_iald d_M_putsWorld_476 tI (by rw [(s_11).1]; exact q107) q108 ?_
      refine ab_topi (fun x109 ex109 => ?_)
      replace hF := bnd_s ex109 hF
      refine ab_iconst (v := 4) d_M_putsWorld_477 (by decide) ?_
      obtain ⟨v111, H112, z110, hG⟩ := bC_s hF; clear hF
      refine hp_callV_v (H1 := H112) (As := [.int x109, .int 4]) (rest := []) d_M_putsWorld_478 (k_M_puts z110) (ab_mkC s_M_puts (Nat.le_of_ble_eq_true rfl) (Nat.le_of_ble_eq_true rfl) (Nat.le_refl 0) (Nat.le_refl 0)) (k13 32 rfl rfl) i_M_puts v_M_puts (by rw [(s_11).1]; exact q71) (by decide) rfl rfl (Nat.le_of_ble_eq_true rfl) ?_
      have s_12 : Sa H H112 := (s_11).tr (m_M_puts z110)
      refine ab_iconst (v := 0) d_M_putsWorld_481 (by decide) ?_
      refine ab_istore_n (lv' := [some (.ref p0), some (.int l1), some (.int 0), none]) d_M_putsWorld_482 rfl (by decide) rfl ?_
      exact kB_M_putsWorld_483 (mB_M_putsWorld_428 n) ih N l1 0 H112 r hG
def B_M_putsWorld_408 (N : Nat) (p0 : Nat) (kq250 : Int32 → Hp → Option (Unit × Hp)) (l1 : Int32) (H : Hp) : Option (Unit × Hp) :=
    kq250 (l1 + 1) H
set_option maxRecDepth 20000 in
set_option maxHeartbeats 2000000 in
theorem mB_M_putsWorld_408 {N : Nat} {p0 : Nat} {kq250 : Int32 → Hp → Option (Unit × Hp)} (hm250 : ∀ (l1 : Int32) (H : Hp) (r : Unit × Hp), kq250 l1 H = some r → Sa H r.2) {l1 : Int32} {H : Hp} {r : Unit × Hp} (hF : B_M_putsWorld_408 N p0 kq250 l1 H = some r) : Sa H r.2 := by
  unfold B_M_putsWorld_408 at hF
  have hm := Sa.rf H
  exact hm.tr (hm250 (l1 + 1) H r hF)
set_option maxRecDepth 20000 in
set_option maxHeartbeats 2000000 in
theorem kB_M_putsWorld_408 {N : Nat} {p0 : Nat} {kq250 : Int32 → Hp → Option (Unit × Hp)} (hm250 : ∀ (l1 : Int32) (H : Hp) (r : Unit × Hp), kq250 l1 H = some r → Sa H r.2) (hk250 : ∀ (l1 : Int32) (H : Hp) (r : Unit × Hp), kq250 l1 H = some r → ab_V y_M_putsWorld { frames := 1, cells := 0, slots := 0, locals := 24 } (po (.returned none) r.2) 0 0 0 0 250 [some (.ref p0), some (.int l1), none, none] [] (hpw H)) {l1 : Int32} {H : Hp} {r : Unit × Hp} (hF : B_M_putsWorld_408 N p0 kq250 l1 H = some r) : ab_V y_M_putsWorld { frames := 1, cells := 0, slots := 0, locals := 24 } (po (.returned none) r.2) 0 0 0 0 408 [some (.ref p0), some (.int l1), none, none] [] (hpw H) := by
  unfold B_M_putsWorld_408 at hF
  refine ab_iinc (v := l1 + 1) (lv' := [some (.ref p0), some (.int (l1 + 1)), none, none]) d_M_putsWorld_408 rfl rfl (by decide) rfl ?_
  refine ab_goto (tgt := 250) d_M_putsWorld_411 (by decide) ?_
  exact hk250 (l1 + 1) H r hF
def B_M_putsWorld_402 (N : Nat) (p0 : Nat) (kq250 : Int32 → Hp → Option (Unit × Hp)) (kq324 : Int32 → Int32 → Hp → Option (Unit × Hp)) (l1 : Int32) (l2 : Int32) (H : Hp) : Option (Unit × Hp) :=
    kq324 l1 (l2 + 1) H
set_option maxRecDepth 20000 in
set_option maxHeartbeats 2000000 in
theorem mB_M_putsWorld_402 {N : Nat} {p0 : Nat} {kq250 : Int32 → Hp → Option (Unit × Hp)} {kq324 : Int32 → Int32 → Hp → Option (Unit × Hp)} (hm250 : ∀ (l1 : Int32) (H : Hp) (r : Unit × Hp), kq250 l1 H = some r → Sa H r.2) (hm324 : ∀ (l1 : Int32) (l2 : Int32) (H : Hp) (r : Unit × Hp), kq324 l1 l2 H = some r → Sa H r.2) {l1 : Int32} {l2 : Int32} {H : Hp} {r : Unit × Hp} (hF : B_M_putsWorld_402 N p0 kq250 kq324 l1 l2 H = some r) : Sa H r.2 := by
  unfold B_M_putsWorld_402 at hF
  have hm := Sa.rf H
  exact hm.tr (hm324 l1 (l2 + 1) H r hF)
set_option maxRecDepth 20000 in
set_option maxHeartbeats 2000000 in
theorem kB_M_putsWorld_402 {N : Nat} {p0 : Nat} {kq250 : Int32 → Hp → Option (Unit × Hp)} {kq324 : Int32 → Int32 → Hp → Option (Unit × Hp)} (hm250 : ∀ (l1 : Int32) (H : Hp) (r : Unit × Hp), kq250 l1 H = some r → Sa H r.2) (hm324 : ∀ (l1 : Int32) (l2 : Int32) (H : Hp) (r : Unit × Hp), kq324 l1 l2 H = some r → Sa H r.2) (hk250 : ∀ (l1 : Int32) (H : Hp) (r : Unit × Hp), kq250 l1 H = some r → ab_V y_M_putsWorld { frames := 1, cells := 0, slots := 0, locals := 24 } (po (.returned none) r.2) 0 0 0 0 250 [some (.ref p0), some (.int l1), none, none] [] (hpw H)) (hk324 : ∀ (l1 : Int32) (l2 : Int32) (H : Hp) (r : Unit × Hp), kq324 l1 l2 H = some r → ab_V y_M_putsWorld { frames := 1, cells := 0, slots := 0, locals := 24 } (po (.returned none) r.2) 0 0 0 0 324 [some (.ref p0), some (.int l1), some (.int l2), none] [] (hpw H)) {l1 : Int32} {l2 : Int32} {H : Hp} {r : Unit × Hp} (hF : B_M_putsWorld_402 N p0 kq250 kq324 l1 l2 H = some r) : ab_V y_M_putsWorld { frames := 1, cells := 0, slots := 0, locals := 24 } (po (.returned none) r.2) 0 0 0 0 402 [some (.ref p0), some (.int l1), some (.int l2), none] [] (hpw H) := by
  unfold B_M_putsWorld_402 at hF
  refine ab_iinc (v := l2 + 1) (lv' := [some (.ref p0), some (.int l1), some (.int (l2 + 1)), none]) d_M_putsWorld_402 rfl rfl (by decide) rfl ?_
  refine ab_goto (tgt := 324) d_M_putsWorld_405 (by decide) ?_
  exact hk324 l1 (l2 + 1) H r hF
def B_M_putsWorld_345 (N : Nat) (p0 : Nat) (kq250 : Int32 → Hp → Option (Unit × Hp)) (kq324 : Int32 → Int32 → Hp → Option (Unit × Hp)) : Nat → Int32 → Int32 → Int32 → Hp → Option (Unit × Hp)
  | 0, _, _, _, _ => none
  | n + 1, l1, l2, l3, H =>
    ck (H.sh[p0]? = some (12, 0)) <|
    rf (H.P p0 3) fun a285 =>
    ck (H.sh[a285]? = some (14, 0)) <|
    rf (H.P a285 18) fun a288 =>
    ar H 100 a288 fun n290 =>
    ck (inb (l2 + (1 : Int32)) n290) <|
    bnd ((H.D a288 ((l2 + (1 : Int32))).toNatClampNeg)) fun x293 =>
    if x293 ≤ l3 then
    B_M_putsWorld_402 N p0 kq250 kq324 l1 l2 H
    else
    rf (H.P p0 9) fun a295 =>
    ck (H.sh[a295]? = some (13, 0)) <|
    rf (H.P a295 6) fun a298 =>
    ar H 100 a298 fun n300 =>
    ck (inb l1 n300) <|
    bnd ((H.D a298 (l1).toNatClampNeg)) fun x303 =>
    if ((x303 >>> (l2 &&& 31)) &&& (1 : Int32)) = (1 : Int32) then
    rf (H.P p0 9) fun a305 =>
    ck (H.sh[a305]? = some (13, 0)) <|
    rf (H.P a305 7) fun a308 =>
    ar H 100 a308 fun n310 =>
    ck (inb (((48 : Int32) * l1) + l3) n310) <|
    bnd ((H.D a308 ((((48 : Int32) * l1) + l3)).toNatClampNeg)) fun x313 =>
    bC (F_M_puts N p0 x313 (4 : Int32) H) fun v315 H316 =>
    B_M_putsWorld_345 N p0 kq250 kq324 n l1 l2 (l3 + 1) H316
    else
    B_M_putsWorld_402 N p0 kq250 kq324 l1 l2 H
termination_by structural n => n
set_option maxRecDepth 20000 in
set_option maxHeartbeats 2000000 in
theorem mB_M_putsWorld_345 {N : Nat} {p0 : Nat} {kq250 : Int32 → Hp → Option (Unit × Hp)} {kq324 : Int32 → Int32 → Hp → Option (Unit × Hp)} (hm250 : ∀ (l1 : Int32) (H : Hp) (r : Unit × Hp), kq250 l1 H = some r → Sa H r.2) (hm324 : ∀ (l1 : Int32) (l2 : Int32) (H : Hp) (r : Unit × Hp), kq324 l1 l2 H = some r → Sa H r.2) : ∀ (n : Nat) (l1 : Int32) (l2 : Int32) (l3 : Int32) (H : Hp) (r : Unit × Hp), B_M_putsWorld_345 N p0 kq250 kq324 n l1 l2 l3 H = some r → Sa H r.2 := by
  intro n
  induction n with
  | zero => intro l1 l2 l3 H r hF; rw [B_M_putsWorld_345] at hF; cases hF
  | succ n ih =>
    intro l1 l2 l3 H r hF
    rw [B_M_putsWorld_345] at hF
    have hm := Sa.rf H
    obtain ⟨q317, hG⟩ := ck_s hF; clear hF
    obtain ⟨a318, e319, hF⟩ := rf_s hG; clear hG
    obtain ⟨q320, hG⟩ := ck_s hF; clear hF
    obtain ⟨a321, e322, hF⟩ := rf_s hG; clear hG
    obtain ⟨n323, q324, hG⟩ := ar_s hF; clear hF
    obtain ⟨q325, hF⟩ := ck_s hG; clear hG
    obtain ⟨x326, -, hG⟩ := bnd_g hF; clear hF
    rcases ite_s hG with ⟨q_24, hF⟩ | ⟨q_24, hF⟩
    · clear hG
      exact hm.tr (mB_M_putsWorld_402 hm250 hm324 hF)
    · clear hG
      obtain ⟨a328, e329, hG⟩ := rf_s hF; clear hF
      obtain ⟨q330, hF⟩ := ck_s hG; clear hG
      obtain ⟨a331, e332, hG⟩ := rf_s hF; clear hF
      obtain ⟨n333, q334, hF⟩ := ar_s hG; clear hG
      obtain ⟨q335, hG⟩ := ck_s hF; clear hF
      obtain ⟨x336, -, hF⟩ := bnd_g hG; clear hG
      rcases ite_s hF with ⟨q_25, hG⟩ | ⟨q_25, hG⟩
      · clear hF
        obtain ⟨a338, e339, hF⟩ := rf_s hG; clear hG
        obtain ⟨q340, hG⟩ := ck_s hF; clear hF
        obtain ⟨a341, e342, hF⟩ := rf_s hG; clear hG
        obtain ⟨n343, q344, hG⟩ := ar_s hF; clear hF
        obtain ⟨q345, hF⟩ := ck_s hG; clear hG
        obtain ⟨x346, -, hG⟩ := bnd_g hF; clear hF
        obtain ⟨v348, H349, z347, hF⟩ := bC_s hG; clear hG
        replace hm : Sa H H349 := hm.tr (m_M_puts z347)
        exact hm.tr (ih l1 l2 (l3 + 1) H349 r hF)
      · clear hF
        exact hm.tr (mB_M_putsWorld_402 hm250 hm324 hG)
set_option maxRecDepth 20000 in
set_option maxHeartbeats 2000000 in
theorem kB_M_putsWorld_345 {N : Nat} {p0 : Nat} {kq250 : Int32 → Hp → Option (Unit × Hp)} {kq324 : Int32 → Int32 → Hp → Option (Unit × Hp)} (hm250 : ∀ (l1 : Int32) (H : Hp) (r : Unit × Hp), kq250 l1 H = some r → Sa H r.2) (hm324 : ∀ (l1 : Int32) (l2 : Int32) (H : Hp) (r : Unit × Hp), kq324 l1 l2 H = some r → Sa H r.2) (hk250 : ∀ (l1 : Int32) (H : Hp) (r : Unit × Hp), kq250 l1 H = some r → ab_V y_M_putsWorld { frames := 1, cells := 0, slots := 0, locals := 24 } (po (.returned none) r.2) 0 0 0 0 250 [some (.ref p0), some (.int l1), none, none] [] (hpw H)) (hk324 : ∀ (l1 : Int32) (l2 : Int32) (H : Hp) (r : Unit × Hp), kq324 l1 l2 H = some r → ab_V y_M_putsWorld { frames := 1, cells := 0, slots := 0, locals := 24 } (po (.returned none) r.2) 0 0 0 0 324 [some (.ref p0), some (.int l1), some (.int l2), none] [] (hpw H)) : ∀ (n : Nat) (l1 : Int32) (l2 : Int32) (l3 : Int32) (H : Hp) (r : Unit × Hp), B_M_putsWorld_345 N p0 kq250 kq324 n l1 l2 l3 H = some r → ab_V y_M_putsWorld { frames := 1, cells := 0, slots := 0, locals := 24 } (po (.returned none) r.2) 0 0 0 0 345 [some (.ref p0), some (.int l1), some (.int l2), some (.int l3)] [] (hpw H) := by
  intro n
  induction n with
  | zero => intro l1 l2 l3 H r hF; rw [B_M_putsWorld_345] at hF; cases hF
  | succ n ih =>
    intro l1 l2 l3 H r hF
    rw [B_M_putsWorld_345] at hF
    refine ab_iload_n d_M_putsWorld_345 rfl rfl ?_
    refine ab_aload_n d_M_putsWorld_346 rfl rfl rfl ?_
    obtain ⟨q284, hG⟩ := ck_s hF; clear hF
    obtain ⟨a285, e286, hF⟩ := rf_s hG; clear hG
    refine hp_getR (f := 3) d_M_putsWorld_347 q284 (by decide) rfl (by decide) (k9 236 rfl rfl) rfl e286 ?_
    obtain ⟨q287, hG⟩ := ck_s hF; clear hF
    obtain ⟨a288, e289, hF⟩ := rf_s hG; clear hG
    refine hp_getRN (f := 18) d_M_putsWorld_350 q287 (by decide) rfl (by decide) (k8 187 rfl rfl) rfl e289 ?_
    refine ab_iload_n d_M_putsWorld_353 rfl rfl ?_
    refine ab_iconst (v := 1) d_M_putsWorld_354 (by decide) ?_
    refine ab_iadd d_M_putsWorld_355 ?_
    obtain ⟨n290, q291, hG⟩ := ar_s hF; clear hF
    obtain ⟨q292, hF⟩ := ck_s hG; clear hG
    refine hp_iald d_M_putsWorld_356 tI q291 q292 ?_
    refine ab_topi (fun x293 ex293 => ?_)
    replace hF := bnd_s ex293 hF
    refine ab_icmp_ge (tgt := 402) d_M_putsWorld_357 (by decide) (fun q294 => ?_) (fun q294 => ?_)
    · rw [if_pos q294] at hF
      refine ab_le (lv' := [some (.ref p0), some (.int l1), some (.int l2), none]) ⟨rfl, ⟨rfl, ⟨rfl, trivial⟩⟩⟩ ?_
      exact kB_M_putsWorld_402 hm250 hm324 hk250 hk324 hF
    · rw [if_neg q294] at hF
      refine ab_aload_n d_M_putsWorld_360 rfl rfl rfl ?_
      obtain ⟨a295, e296, hG⟩ := rf_s hF; clear hF
      refine hp_getR (f := 9) d_M_putsWorld_361 q284 (by decide) rfl (by decide) (k10 2 rfl rfl) rfl e296 ?_
      obtain ⟨q297, hF⟩ := ck_s hG; clear hG
      obtain ⟨a298, e299, hG⟩ := rf_s hF; clear hF
      refine hp_getRN (f := 6) d_M_putsWorld_364 q297 (by decide) rfl (by decide) (k9 106 rfl rfl) rfl e299 ?_
      refine ab_iload_n d_M_putsWorld_367 rfl rfl ?_
      obtain ⟨n300, q301, hF⟩ := ar_s hG; clear hG
      obtain ⟨q302, hG⟩ := ck_s hF; clear hF
      refine hp_iald d_M_putsWorld_368 tI q301 q302 ?_
      refine ab_topi (fun x303 ex303 => ?_)
      replace hG := bnd_s ex303 hG
      refine ab_iload_n d_M_putsWorld_369 rfl rfl ?_
      refine ab_ishr d_M_putsWorld_370 ?_
      refine ab_iconst (v := 1) d_M_putsWorld_371 (by decide) ?_
      refine ab_iand d_M_putsWorld_372 ?_
      refine ab_iconst (v := 1) d_M_putsWorld_373 (by decide) ?_
      refine ab_icmp_ne (tgt := 402) d_M_putsWorld_374 (by decide) (fun q304 => ?_) (fun q304 => ?_)
      · rw [if_neg q304] at hG
        refine ab_le (lv' := [some (.ref p0), some (.int l1), some (.int l2), none]) ⟨rfl, ⟨rfl, ⟨rfl, trivial⟩⟩⟩ ?_
        exact kB_M_putsWorld_402 hm250 hm324 hk250 hk324 hG
      · rw [if_pos q304] at hG
        refine ab_aload_n d_M_putsWorld_377 rfl rfl rfl ?_
        refine ab_aload_n d_M_putsWorld_378 rfl rfl rfl ?_
        obtain ⟨a305, e306, hF⟩ := rf_s hG; clear hG
        refine hp_getR (f := 9) d_M_putsWorld_379 q284 (by decide) rfl (by decide) (k10 2 rfl rfl) rfl e306 ?_
        obtain ⟨q307, hG⟩ := ck_s hF; clear hF
        obtain ⟨a308, e309, hF⟩ := rf_s hG; clear hG
        refine hp_getRN (f := 7) d_M_putsWorld_382 q307 (by decide) rfl (by decide) (k9 110 rfl rfl) rfl e309 ?_
        refine ab_bipush (v := 48) d_M_putsWorld_385 (by decide) ?_
        refine ab_iload_n d_M_putsWorld_387 rfl rfl ?_
        refine ab_imul d_M_putsWorld_388 ?_
        refine ab_iload_n d_M_putsWorld_389 rfl rfl ?_
        refine ab_iadd d_M_putsWorld_390 ?_
        obtain ⟨n310, q311, hG⟩ := ar_s hF; clear hF
        obtain ⟨q312, hF⟩ := ck_s hG; clear hG
        refine hp_iald d_M_putsWorld_391 tI q311 q312 ?_
        refine ab_topi (fun x313 ex313 => ?_)
        replace hF := bnd_s ex313 hF
        refine ab_iconst (v := 4) d_M_putsWorld_392 (by decide) ?_
        obtain ⟨v315, H316, z314, hG⟩ := bC_s hF; clear hF
        refine hp_callV_v (H1 := H316) (As := [.int x313, .int 4]) (rest := []) d_M_putsWorld_393 (k_M_puts z314) (ab_mkC s_M_puts (Nat.le_of_ble_eq_true rfl) (Nat.le_of_ble_eq_true rfl) (Nat.le_refl 0) (Nat.le_refl 0)) (k13 32 rfl rfl) i_M_puts v_M_puts q284 (by decide) rfl rfl (Nat.le_of_ble_eq_true rfl) ?_
        have s_23 : Sa H H316 := (m_M_puts z314)
        refine ab_iinc (v := l3 + 1) (lv' := [some (.ref p0), some (.int l1), some (.int l2), some (.int (l3 + 1))]) d_M_putsWorld_396 rfl rfl (by decide) rfl ?_
        refine ab_goto (tgt := 345) d_M_putsWorld_399 (by decide) ?_
        exact ih l1 l2 (l3 + 1) H316 r hG
def B_M_putsWorld_324 (N : Nat) (p0 : Nat) (kq250 : Int32 → Hp → Option (Unit × Hp)) : Nat → Int32 → Int32 → Hp → Option (Unit × Hp)
  | 0, _, _, _ => none
  | n + 1, l1, l2, H =>
    ck (H.sh[p0]? = some (12, 0)) <|
    rf (H.P p0 3) fun a270 =>
    ck (H.sh[a270]? = some (14, 0)) <|
    bnd ((H.D a270 16)) fun x273 =>
    if x273 ≤ l2 then
    B_M_putsWorld_408 N p0 kq250 l1 H
    else
    rf (H.P p0 3) fun a275 =>
    ck (H.sh[a275]? = some (14, 0)) <|
    rf (H.P a275 18) fun a278 =>
    ar H 100 a278 fun n280 =>
    ck (inb l2 n280) <|
    bnd ((H.D a278 (l2).toNatClampNeg)) fun x283 =>
    B_M_putsWorld_345 N p0 kq250 (fun l1 l2 H => B_M_putsWorld_324 N p0 kq250 n l1 l2 H) N l1 l2 x283 H
termination_by structural n => n
set_option maxRecDepth 20000 in
set_option maxHeartbeats 2000000 in
theorem mB_M_putsWorld_324 {N : Nat} {p0 : Nat} {kq250 : Int32 → Hp → Option (Unit × Hp)} (hm250 : ∀ (l1 : Int32) (H : Hp) (r : Unit × Hp), kq250 l1 H = some r → Sa H r.2) : ∀ (n : Nat) (l1 : Int32) (l2 : Int32) (H : Hp) (r : Unit × Hp), B_M_putsWorld_324 N p0 kq250 n l1 l2 H = some r → Sa H r.2 := by
  intro n
  induction n with
  | zero => intro l1 l2 H r hF; rw [B_M_putsWorld_324] at hF; cases hF
  | succ n ih =>
    intro l1 l2 H r hF
    rw [B_M_putsWorld_324] at hF
    have hm := Sa.rf H
    obtain ⟨q350, hG⟩ := ck_s hF; clear hF
    obtain ⟨a351, e352, hF⟩ := rf_s hG; clear hG
    obtain ⟨q353, hG⟩ := ck_s hF; clear hF
    obtain ⟨x354, -, hF⟩ := bnd_g hG; clear hG
    rcases ite_s hF with ⟨q_27, hG⟩ | ⟨q_27, hG⟩
    · clear hF
      exact hm.tr (mB_M_putsWorld_408 hm250 hG)
    · clear hF
      obtain ⟨a356, e357, hF⟩ := rf_s hG; clear hG
      obtain ⟨q358, hG⟩ := ck_s hF; clear hF
      obtain ⟨a359, e360, hF⟩ := rf_s hG; clear hG
      obtain ⟨n361, q362, hG⟩ := ar_s hF; clear hF
      obtain ⟨q363, hF⟩ := ck_s hG; clear hG
      obtain ⟨x364, -, hG⟩ := bnd_g hF; clear hF
      exact hm.tr (mB_M_putsWorld_345 hm250 ih N l1 l2 x364 H r hG)
set_option maxRecDepth 20000 in
set_option maxHeartbeats 2000000 in
theorem kB_M_putsWorld_324 {N : Nat} {p0 : Nat} {kq250 : Int32 → Hp → Option (Unit × Hp)} (hm250 : ∀ (l1 : Int32) (H : Hp) (r : Unit × Hp), kq250 l1 H = some r → Sa H r.2) (hk250 : ∀ (l1 : Int32) (H : Hp) (r : Unit × Hp), kq250 l1 H = some r → ab_V y_M_putsWorld { frames := 1, cells := 0, slots := 0, locals := 24 } (po (.returned none) r.2) 0 0 0 0 250 [some (.ref p0), some (.int l1), none, none] [] (hpw H)) : ∀ (n : Nat) (l1 : Int32) (l2 : Int32) (H : Hp) (r : Unit × Hp), B_M_putsWorld_324 N p0 kq250 n l1 l2 H = some r → ab_V y_M_putsWorld { frames := 1, cells := 0, slots := 0, locals := 24 } (po (.returned none) r.2) 0 0 0 0 324 [some (.ref p0), some (.int l1), some (.int l2), none] [] (hpw H) := by
  intro n
  induction n with
  | zero => intro l1 l2 H r hF; rw [B_M_putsWorld_324] at hF; cases hF
  | succ n ih =>
    intro l1 l2 H r hF
    rw [B_M_putsWorld_324] at hF
    refine ab_iload_n d_M_putsWorld_324 rfl rfl ?_
    refine ab_aload_n d_M_putsWorld_325 rfl rfl rfl ?_
    obtain ⟨q269, hG⟩ := ck_s hF; clear hF
    obtain ⟨a270, e271, hF⟩ := rf_s hG; clear hG
    refine hp_getR (f := 3) d_M_putsWorld_326 q269 (by decide) rfl (by decide) (k9 236 rfl rfl) rfl e271 ?_
    obtain ⟨q272, hG⟩ := ck_s hF; clear hF
    refine hp_getIN (f := 16) d_M_putsWorld_329 q272 (by decide) rfl (by decide) (k8 180 rfl rfl) rfl ?_
    refine ab_topi (fun x273 ex273 => ?_)
    replace hG := bnd_s ex273 hG
    refine ab_icmp_ge (tgt := 408) d_M_putsWorld_332 (by decide) (fun q274 => ?_) (fun q274 => ?_)
    · rw [if_pos q274] at hG
      refine ab_le (lv' := [some (.ref p0), some (.int l1), none, none]) ⟨rfl, ⟨rfl, trivial⟩⟩ ?_
      exact kB_M_putsWorld_408 hm250 hk250 hG
    · rw [if_neg q274] at hG
      refine ab_aload_n d_M_putsWorld_335 rfl rfl rfl ?_
      obtain ⟨a275, e276, hF⟩ := rf_s hG; clear hG
      refine hp_getR (f := 3) d_M_putsWorld_336 q269 (by decide) rfl (by decide) (k9 236 rfl rfl) rfl e276 ?_
      obtain ⟨q277, hG⟩ := ck_s hF; clear hF
      obtain ⟨a278, e279, hF⟩ := rf_s hG; clear hG
      refine hp_getRN (f := 18) d_M_putsWorld_339 q277 (by decide) rfl (by decide) (k8 187 rfl rfl) rfl e279 ?_
      refine ab_iload_n d_M_putsWorld_342 rfl rfl ?_
      obtain ⟨n280, q281, hG⟩ := ar_s hF; clear hF
      obtain ⟨q282, hF⟩ := ck_s hG; clear hG
      refine hp_iald d_M_putsWorld_343 tI q281 q282 ?_
      refine ab_topi (fun x283 ex283 => ?_)
      replace hF := bnd_s ex283 hF
      refine ab_istore_n (lv' := [some (.ref p0), some (.int l1), some (.int l2), some (.int x283)]) d_M_putsWorld_344 rfl (by decide) rfl ?_
      exact kB_M_putsWorld_345 hm250 (mB_M_putsWorld_324 hm250 n) hk250 ih N l1 l2 x283 H r hF
def B_M_putsWorld_289 (N : Nat) (p0 : Nat) (kq250 : Int32 → Hp → Option (Unit × Hp)) (l1 : Int32) (w0 : Nat) (w1 : Int32) (H : Hp) : Option (Unit × Hp) :=
    ck (H.sh[w0]? = some (12, 0)) <|
    bC (F_M_puts N w0 w1 (1 : Int32) H) fun v244 H245 =>
    ck (H245.sh[p0]? = some (12, 0)) <|
    rf (H245.P p0 9) fun a247 =>
    ck (H245.sh[a247]? = some (13, 0)) <|
    rf (H245.P a247 5) fun a250 =>
    ar H245 102 a250 fun n252 =>
    ck (inb l1 n252) <|
    bnd ((H245.D a250 (l1).toNatClampNeg)) fun x255 =>
    if x255 = (0 : Int32) then
    B_M_putsWorld_408 N p0 kq250 l1 H245
    else
    rf (H245.P p0 9) fun a257 =>
    ck (H245.sh[a257]? = some (13, 0)) <|
    rf (H245.P a257 6) fun a260 =>
    ar H245 100 a260 fun n262 =>
    ck (inb l1 n262) <|
    bnd ((H245.D a260 (l1).toNatClampNeg)) fun x265 =>
    bC (F_M_puts N p0 x265 (2 : Int32) H245) fun v267 H268 =>
    B_M_putsWorld_324 N p0 kq250 N l1 0 H268
set_option maxRecDepth 20000 in
set_option maxHeartbeats 2000000 in
theorem mB_M_putsWorld_289 {N : Nat} {p0 : Nat} {kq250 : Int32 → Hp → Option (Unit × Hp)} (hm250 : ∀ (l1 : Int32) (H : Hp) (r : Unit × Hp), kq250 l1 H = some r → Sa H r.2) {l1 : Int32} {w0 : Nat} {w1 : Int32} {H : Hp} {r : Unit × Hp} (hF : B_M_putsWorld_289 N p0 kq250 l1 w0 w1 H = some r) : Sa H r.2 := by
  unfold B_M_putsWorld_289 at hF
  have hm := Sa.rf H
  obtain ⟨q365, hG⟩ := ck_s hF; clear hF
  obtain ⟨v367, H368, z366, hF⟩ := bC_s hG; clear hG
  replace hm : Sa H H368 := hm.tr (m_M_puts z366)
  obtain ⟨q369, hG⟩ := ck_s hF; clear hF
  obtain ⟨a370, e371, hF⟩ := rf_s hG; clear hG
  obtain ⟨q372, hG⟩ := ck_s hF; clear hF
  obtain ⟨a373, e374, hF⟩ := rf_s hG; clear hG
  obtain ⟨n375, q376, hG⟩ := ar_s hF; clear hF
  obtain ⟨q377, hF⟩ := ck_s hG; clear hG
  obtain ⟨x378, -, hG⟩ := bnd_g hF; clear hF
  rcases ite_s hG with ⟨q_29, hF⟩ | ⟨q_29, hF⟩
  · clear hG
    exact hm.tr (mB_M_putsWorld_408 hm250 hF)
  · clear hG
    obtain ⟨a380, e381, hG⟩ := rf_s hF; clear hF
    obtain ⟨q382, hF⟩ := ck_s hG; clear hG
    obtain ⟨a383, e384, hG⟩ := rf_s hF; clear hF
    obtain ⟨n385, q386, hF⟩ := ar_s hG; clear hG
    obtain ⟨q387, hG⟩ := ck_s hF; clear hF
    obtain ⟨x388, -, hF⟩ := bnd_g hG; clear hG
    obtain ⟨v390, H391, z389, hG⟩ := bC_s hF; clear hF
    replace hm : Sa H H391 := hm.tr (m_M_puts z389)
    exact hm.tr (mB_M_putsWorld_324 hm250 N l1 0 H391 r hG)
set_option maxRecDepth 20000 in
set_option maxHeartbeats 2000000 in
theorem kB_M_putsWorld_289 {N : Nat} {p0 : Nat} {kq250 : Int32 → Hp → Option (Unit × Hp)} (hm250 : ∀ (l1 : Int32) (H : Hp) (r : Unit × Hp), kq250 l1 H = some r → Sa H r.2) (hk250 : ∀ (l1 : Int32) (H : Hp) (r : Unit × Hp), kq250 l1 H = some r → ab_V y_M_putsWorld { frames := 1, cells := 0, slots := 0, locals := 24 } (po (.returned none) r.2) 0 0 0 0 250 [some (.ref p0), some (.int l1), none, none] [] (hpw H)) {l1 : Int32} {w0 : Nat} {w1 : Int32} {H : Hp} {r : Unit × Hp} (hF : B_M_putsWorld_289 N p0 kq250 l1 w0 w1 H = some r) : ab_V y_M_putsWorld { frames := 1, cells := 0, slots := 0, locals := 24 } (po (.returned none) r.2) 0 0 0 0 289 [some (.ref p0), some (.int l1), none, none] [.int w1, .ref w0] (hpw H) := by
  unfold B_M_putsWorld_289 at hF
  refine ab_iconst (v := 1) d_M_putsWorld_289 (by decide) ?_
  obtain ⟨q242, hG⟩ := ck_s hF; clear hF
  obtain ⟨v244, H245, z243, hF⟩ := bC_s hG; clear hG
  refine hp_callV_v (H1 := H245) (As := [.int w1, .int 1]) (rest := []) d_M_putsWorld_290 (k_M_puts z243) (ab_mkC s_M_puts (Nat.le_of_ble_eq_true rfl) (Nat.le_of_ble_eq_true rfl) (Nat.le_refl 0) (Nat.le_refl 0)) (k13 32 rfl rfl) i_M_puts v_M_puts q242 (by decide) rfl rfl (Nat.le_of_ble_eq_true rfl) ?_
  have s_21 : Sa H H245 := (m_M_puts z243)
  refine ab_aload_n d_M_putsWorld_293 rfl rfl rfl ?_
  obtain ⟨q246, hG⟩ := ck_s hF; clear hF
  rw [(s_21).1] at q246
  obtain ⟨a247, e248, hF⟩ := rf_s hG; clear hG
  refine hp_getR (f := 9) d_M_putsWorld_294 (by rw [(s_21).1]; exact q246) (by decide) rfl (by decide) (k10 2 rfl rfl) rfl e248 ?_
  obtain ⟨q249, hG⟩ := ck_s hF; clear hF
  rw [(s_21).1] at q249
  obtain ⟨a250, e251, hF⟩ := rf_s hG; clear hG
  refine hp_getRN (f := 5) d_M_putsWorld_297 (by rw [(s_21).1]; exact q249) (by decide) rfl (by decide) (k9 102 rfl rfl) rfl e251 ?_
  refine ab_iload_n d_M_putsWorld_300 rfl rfl ?_
  obtain ⟨n252, q253, hG⟩ := ar_s hF; clear hF
  rw [(s_21).1] at q253
  obtain ⟨q254, hF⟩ := ck_s hG; clear hG
  refine hp_zald d_M_putsWorld_301 tZ (by rw [(s_21).1]; exact q253) q254 ?_
  refine ab_topi (fun x255 ex255 => ?_)
  replace hF := bnd_s ex255 hF
  refine ab_if_ne (tgt := 308) d_M_putsWorld_302 (by decide) (fun q256 => ?_) (fun q256 => ?_)
  · rw [if_neg q256] at hF
    refine ab_aload_n d_M_putsWorld_308 rfl rfl rfl ?_
    refine ab_aload_n d_M_putsWorld_309 rfl rfl rfl ?_
    obtain ⟨a257, e258, hG⟩ := rf_s hF; clear hF
    refine hp_getR (f := 9) d_M_putsWorld_310 (by rw [(s_21).1]; exact q246) (by decide) rfl (by decide) (k10 2 rfl rfl) rfl e258 ?_
    obtain ⟨q259, hF⟩ := ck_s hG; clear hG
    rw [(s_21).1] at q259
    obtain ⟨a260, e261, hG⟩ := rf_s hF; clear hF
    refine hp_getRN (f := 6) d_M_putsWorld_313 (by rw [(s_21).1]; exact q259) (by decide) rfl (by decide) (k9 106 rfl rfl) rfl e261 ?_
    refine ab_iload_n d_M_putsWorld_316 rfl rfl ?_
    obtain ⟨n262, q263, hF⟩ := ar_s hG; clear hG
    rw [(s_21).1] at q263
    obtain ⟨q264, hG⟩ := ck_s hF; clear hF
    refine hp_iald d_M_putsWorld_317 tI (by rw [(s_21).1]; exact q263) q264 ?_
    refine ab_topi (fun x265 ex265 => ?_)
    replace hG := bnd_s ex265 hG
    refine ab_iconst (v := 2) d_M_putsWorld_318 (by decide) ?_
    obtain ⟨v267, H268, z266, hF⟩ := bC_s hG; clear hG
    refine hp_callV_v (H1 := H268) (As := [.int x265, .int 2]) (rest := []) d_M_putsWorld_319 (k_M_puts z266) (ab_mkC s_M_puts (Nat.le_of_ble_eq_true rfl) (Nat.le_of_ble_eq_true rfl) (Nat.le_refl 0) (Nat.le_refl 0)) (k13 32 rfl rfl) i_M_puts v_M_puts (by rw [(s_21).1]; exact q246) (by decide) rfl rfl (Nat.le_of_ble_eq_true rfl) ?_
    have s_22 : Sa H H268 := (s_21).tr (m_M_puts z266)
    refine ab_iconst (v := 0) d_M_putsWorld_322 (by decide) ?_
    refine ab_istore_n (lv' := [some (.ref p0), some (.int l1), some (.int 0), none]) d_M_putsWorld_323 rfl (by decide) rfl ?_
    exact kB_M_putsWorld_324 hm250 hk250 N l1 0 H268 r hF
  · rw [if_pos q256] at hF
    refine ab_goto (tgt := 408) d_M_putsWorld_305 (by decide) ?_
    exact kB_M_putsWorld_408 hm250 hk250 hF
def B_M_putsWorld_250 (N : Nat) (p0 : Nat) : Nat → Int32 → Hp → Option (Unit × Hp)
  | 0, _, _ => none
  | n + 1, l1, H =>
    if (256 : Int32) ≤ l1 then
    ck (H.sh[p0]? = some (12, 0)) <|
    rf (H.P p0 9) fun a64 =>
    ck (H.sh[a64]? = some (13, 0)) <|
    bnd ((H.D a64 8)) fun x67 =>
    bC (F_M_puts N p0 x67 (2 : Int32) H) fun v69 H70 =>
    B_M_putsWorld_428 N p0 N 0 H70
    else
    ck (H.sh[p0]? = some (12, 0)) <|
    rf (H.P p0 9) fun a220 =>
    ck (H.sh[a220]? = some (13, 0)) <|
    rf (H.P a220 4) fun a223 =>
    ar H 100 a223 fun n225 =>
    ck (inb l1 n225) <|
    bnd ((H.D a223 (l1).toNatClampNeg)) fun x228 =>
    bC (F_M_puts N p0 x228 (4 : Int32) H) fun v230 H231 =>
    rf (H231.P p0 9) fun a232 =>
    ck (H231.sh[a232]? = some (13, 0)) <|
    rf (H231.P a232 5) fun a235 =>
    ar H231 102 a235 fun n237 =>
    ck (inb l1 n237) <|
    bnd ((H231.D a235 (l1).toNatClampNeg)) fun x240 =>
    if x240 = (0 : Int32) then
    B_M_putsWorld_289 N p0 (fun l1 H => B_M_putsWorld_250 N p0 n l1 H) l1 p0 0 H231
    else
    B_M_putsWorld_289 N p0 (fun l1 H => B_M_putsWorld_250 N p0 n l1 H) l1 p0 1 H231
termination_by structural n => n
set_option maxRecDepth 20000 in
set_option maxHeartbeats 2000000 in
theorem mB_M_putsWorld_250 {N : Nat} {p0 : Nat} : ∀ (n : Nat) (l1 : Int32) (H : Hp) (r : Unit × Hp), B_M_putsWorld_250 N p0 n l1 H = some r → Sa H r.2 := by
  intro n
  induction n with
  | zero => intro l1 H r hF; rw [B_M_putsWorld_250] at hF; cases hF
  | succ n ih =>
    intro l1 H r hF
    rw [B_M_putsWorld_250] at hF
    have hm := Sa.rf H
    rcases ite_s hF with ⟨q_31, hG⟩ | ⟨q_31, hG⟩
    · clear hF
      obtain ⟨q393, hF⟩ := ck_s hG; clear hG
      obtain ⟨a394, e395, hG⟩ := rf_s hF; clear hF
      obtain ⟨q396, hF⟩ := ck_s hG; clear hG
      obtain ⟨x397, -, hG⟩ := bnd_g hF; clear hF
      obtain ⟨v399, H400, z398, hF⟩ := bC_s hG; clear hG
      replace hm : Sa H H400 := hm.tr (m_M_puts z398)
      exact hm.tr (mB_M_putsWorld_428 N 0 H400 r hF)
    · clear hF
      obtain ⟨q401, hF⟩ := ck_s hG; clear hG
      obtain ⟨a402, e403, hG⟩ := rf_s hF; clear hF
      obtain ⟨q404, hF⟩ := ck_s hG; clear hG
      obtain ⟨a405, e406, hG⟩ := rf_s hF; clear hF
      obtain ⟨n407, q408, hF⟩ := ar_s hG; clear hG
      obtain ⟨q409, hG⟩ := ck_s hF; clear hF
      obtain ⟨x410, -, hF⟩ := bnd_g hG; clear hG
      obtain ⟨v412, H413, z411, hG⟩ := bC_s hF; clear hF
      replace hm : Sa H H413 := hm.tr (m_M_puts z411)
      obtain ⟨a414, e415, hF⟩ := rf_s hG; clear hG
      obtain ⟨q416, hG⟩ := ck_s hF; clear hF
      obtain ⟨a417, e418, hF⟩ := rf_s hG; clear hG
      obtain ⟨n419, q420, hG⟩ := ar_s hF; clear hF
      obtain ⟨q421, hF⟩ := ck_s hG; clear hG
      obtain ⟨x422, -, hG⟩ := bnd_g hF; clear hF
      rcases ite_s hG with ⟨q_34, hF⟩ | ⟨q_34, hF⟩
      · clear hG
        exact hm.tr (mB_M_putsWorld_289 ih hF)
      · clear hG
        exact hm.tr (mB_M_putsWorld_289 ih hF)
set_option maxRecDepth 20000 in
set_option maxHeartbeats 2000000 in
theorem kB_M_putsWorld_250 {N : Nat} {p0 : Nat} : ∀ (n : Nat) (l1 : Int32) (H : Hp) (r : Unit × Hp), B_M_putsWorld_250 N p0 n l1 H = some r → ab_V y_M_putsWorld { frames := 1, cells := 0, slots := 0, locals := 24 } (po (.returned none) r.2) 0 0 0 0 250 [some (.ref p0), some (.int l1), none, none] [] (hpw H) := by
  intro n
  induction n with
  | zero => intro l1 H r hF; rw [B_M_putsWorld_250] at hF; cases hF
  | succ n ih =>
    intro l1 H r hF
    rw [B_M_putsWorld_250] at hF
    refine ab_iload_n d_M_putsWorld_250 rfl rfl ?_
    refine ab_sipush (v := 256) d_M_putsWorld_251 (by decide) ?_
    refine ab_icmp_ge (tgt := 414) d_M_putsWorld_254 (by decide) (fun q62 => ?_) (fun q62 => ?_)
    · rw [if_pos q62] at hF
      refine ab_aload_n d_M_putsWorld_414 rfl rfl rfl ?_
      refine ab_aload_n d_M_putsWorld_415 rfl rfl rfl ?_
      obtain ⟨q63, hG⟩ := ck_s hF; clear hF
      obtain ⟨a64, e65, hF⟩ := rf_s hG; clear hG
      refine hp_getR (f := 9) d_M_putsWorld_416 q63 (by decide) rfl (by decide) (k10 2 rfl rfl) rfl e65 ?_
      obtain ⟨q66, hG⟩ := ck_s hF; clear hF
      refine hp_getIN (f := 8) d_M_putsWorld_419 q66 (by decide) rfl (by decide) (k9 112 rfl rfl) rfl ?_
      refine ab_topi (fun x67 ex67 => ?_)
      replace hG := bnd_s ex67 hG
      refine ab_iconst (v := 2) d_M_putsWorld_422 (by decide) ?_
      obtain ⟨v69, H70, z68, hF⟩ := bC_s hG; clear hG
      refine hp_callV_v (H1 := H70) (As := [.int x67, .int 2]) (rest := []) d_M_putsWorld_423 (k_M_puts z68) (ab_mkC s_M_puts (Nat.le_of_ble_eq_true rfl) (Nat.le_of_ble_eq_true rfl) (Nat.le_refl 0) (Nat.le_refl 0)) (k13 32 rfl rfl) i_M_puts v_M_puts q63 (by decide) rfl rfl (Nat.le_of_ble_eq_true rfl) ?_
      have s_9 : Sa H H70 := (m_M_puts z68)
      refine ab_iconst (v := 0) d_M_putsWorld_426 (by decide) ?_
      refine ab_istore_n (lv' := [some (.ref p0), some (.int 0), none, none]) d_M_putsWorld_427 rfl (by decide) rfl ?_
      exact kB_M_putsWorld_428 N 0 H70 r hF
    · rw [if_neg q62] at hF
      refine ab_aload_n d_M_putsWorld_257 rfl rfl rfl ?_
      refine ab_aload_n d_M_putsWorld_258 rfl rfl rfl ?_
      obtain ⟨q219, hG⟩ := ck_s hF; clear hF
      obtain ⟨a220, e221, hF⟩ := rf_s hG; clear hG
      refine hp_getR (f := 9) d_M_putsWorld_259 q219 (by decide) rfl (by decide) (k10 2 rfl rfl) rfl e221 ?_
      obtain ⟨q222, hG⟩ := ck_s hF; clear hF
      obtain ⟨a223, e224, hF⟩ := rf_s hG; clear hG
      refine hp_getRN (f := 4) d_M_putsWorld_262 q222 (by decide) rfl (by decide) (k9 99 rfl rfl) rfl e224 ?_
      refine ab_iload_n d_M_putsWorld_265 rfl rfl ?_
      obtain ⟨n225, q226, hG⟩ := ar_s hF; clear hF
      obtain ⟨q227, hF⟩ := ck_s hG; clear hG
      refine hp_iald d_M_putsWorld_266 tI q226 q227 ?_
      refine ab_topi (fun x228 ex228 => ?_)
      replace hF := bnd_s ex228 hF
      refine ab_iconst (v := 4) d_M_putsWorld_267 (by decide) ?_
      obtain ⟨v230, H231, z229, hG⟩ := bC_s hF; clear hF
      refine hp_callV_v (H1 := H231) (As := [.int x228, .int 4]) (rest := []) d_M_putsWorld_268 (k_M_puts z229) (ab_mkC s_M_puts (Nat.le_of_ble_eq_true rfl) (Nat.le_of_ble_eq_true rfl) (Nat.le_refl 0) (Nat.le_refl 0)) (k13 32 rfl rfl) i_M_puts v_M_puts q219 (by decide) rfl rfl (Nat.le_of_ble_eq_true rfl) ?_
      have s_20 : Sa H H231 := (m_M_puts z229)
      refine ab_aload_n d_M_putsWorld_271 rfl rfl rfl ?_
      refine ab_aload_n d_M_putsWorld_272 rfl rfl rfl ?_
      obtain ⟨a232, e233, hF⟩ := rf_s hG; clear hG
      refine hp_getR (f := 9) d_M_putsWorld_273 (by rw [(s_20).1]; exact q219) (by decide) rfl (by decide) (k10 2 rfl rfl) rfl e233 ?_
      obtain ⟨q234, hG⟩ := ck_s hF; clear hF
      rw [(s_20).1] at q234
      obtain ⟨a235, e236, hF⟩ := rf_s hG; clear hG
      refine hp_getRN (f := 5) d_M_putsWorld_276 (by rw [(s_20).1]; exact q234) (by decide) rfl (by decide) (k9 102 rfl rfl) rfl e236 ?_
      refine ab_iload_n d_M_putsWorld_279 rfl rfl ?_
      obtain ⟨n237, q238, hG⟩ := ar_s hF; clear hF
      rw [(s_20).1] at q238
      obtain ⟨q239, hF⟩ := ck_s hG; clear hG
      refine hp_zald d_M_putsWorld_280 tZ (by rw [(s_20).1]; exact q238) q239 ?_
      refine ab_topi (fun x240 ex240 => ?_)
      replace hF := bnd_s ex240 hF
      refine ab_if_eq (tgt := 288) d_M_putsWorld_281 (by decide) (fun q241 => ?_) (fun q241 => ?_)
      · rw [if_pos q241] at hF
        refine ab_iconst (v := 0) d_M_putsWorld_288 (by decide) ?_
        exact kB_M_putsWorld_289 (mB_M_putsWorld_250 n) ih hF
      · rw [if_neg q241] at hF
        refine ab_iconst (v := 1) d_M_putsWorld_284 (by decide) ?_
        refine ab_goto (tgt := 289) d_M_putsWorld_285 (by decide) ?_
        exact kB_M_putsWorld_289 (mB_M_putsWorld_250 n) ih hF
def B_M_putsWorld_157 (N : Nat) (p0 : Nat) (kq130 : Int32 → Hp → Option (Unit × Hp)) : Nat → Int32 → Int32 → Hp → Option (Unit × Hp)
  | 0, _, _, _ => none
  | n + 1, l1, l2, H =>
    ck (H.sh[p0]? = some (12, 0)) <|
    rf (H.P p0 3) fun a437 =>
    ck (H.sh[a437]? = some (14, 0)) <|
    rf (H.P a437 23) fun a440 =>
    ar H 100 a440 fun n442 =>
    ck (inb l1 n442) <|
    bnd ((H.D a440 (l1).toNatClampNeg)) fun x445 =>
    if x445 ≤ l2 then
    kq130 (l1 + 1) H
    else
    rf (H.P p0 3) fun a447 =>
    ck (H.sh[a447]? = some (14, 0)) <|
    rf (H.P a447 24) fun a450 =>
    ar H 100 a450 fun n452 =>
    ck (inb (((4 : Int32) * l1) + l2) n452) <|
    bnd ((H.D a450 ((((4 : Int32) * l1) + l2)).toNatClampNeg)) fun x455 =>
    bC (F_M_puts N p0 x455 (1 : Int32) H) fun v457 H458 =>
    B_M_putsWorld_157 N p0 kq130 n l1 (l2 + 1) H458
termination_by structural n => n
set_option maxRecDepth 20000 in
set_option maxHeartbeats 2000000 in
theorem mB_M_putsWorld_157 {N : Nat} {p0 : Nat} {kq130 : Int32 → Hp → Option (Unit × Hp)} (hm130 : ∀ (l1 : Int32) (H : Hp) (r : Unit × Hp), kq130 l1 H = some r → Sa H r.2) : ∀ (n : Nat) (l1 : Int32) (l2 : Int32) (H : Hp) (r : Unit × Hp), B_M_putsWorld_157 N p0 kq130 n l1 l2 H = some r → Sa H r.2 := by
  intro n
  induction n with
  | zero => intro l1 l2 H r hF; rw [B_M_putsWorld_157] at hF; cases hF
  | succ n ih =>
    intro l1 l2 H r hF
    rw [B_M_putsWorld_157] at hF
    have hm := Sa.rf H
    obtain ⟨q459, hG⟩ := ck_s hF; clear hF
    obtain ⟨a460, e461, hF⟩ := rf_s hG; clear hG
    obtain ⟨q462, hG⟩ := ck_s hF; clear hF
    obtain ⟨a463, e464, hF⟩ := rf_s hG; clear hG
    obtain ⟨n465, q466, hG⟩ := ar_s hF; clear hF
    obtain ⟨q467, hF⟩ := ck_s hG; clear hG
    obtain ⟨x468, -, hG⟩ := bnd_g hF; clear hF
    rcases ite_s hG with ⟨q_37, hF⟩ | ⟨q_37, hF⟩
    · clear hG
      exact hm.tr (hm130 (l1 + 1) H r hF)
    · clear hG
      obtain ⟨a470, e471, hG⟩ := rf_s hF; clear hF
      obtain ⟨q472, hF⟩ := ck_s hG; clear hG
      obtain ⟨a473, e474, hG⟩ := rf_s hF; clear hF
      obtain ⟨n475, q476, hF⟩ := ar_s hG; clear hG
      obtain ⟨q477, hG⟩ := ck_s hF; clear hF
      obtain ⟨x478, -, hF⟩ := bnd_g hG; clear hG
      obtain ⟨v480, H481, z479, hG⟩ := bC_s hF; clear hF
      replace hm : Sa H H481 := hm.tr (m_M_puts z479)
      exact hm.tr (ih l1 (l2 + 1) H481 r hG)
set_option maxRecDepth 20000 in
set_option maxHeartbeats 2000000 in
theorem kB_M_putsWorld_157 {N : Nat} {p0 : Nat} {kq130 : Int32 → Hp → Option (Unit × Hp)} (hm130 : ∀ (l1 : Int32) (H : Hp) (r : Unit × Hp), kq130 l1 H = some r → Sa H r.2) (hk130 : ∀ (l1 : Int32) (H : Hp) (r : Unit × Hp), kq130 l1 H = some r → ab_V y_M_putsWorld { frames := 1, cells := 0, slots := 0, locals := 24 } (po (.returned none) r.2) 0 0 0 0 130 [some (.ref p0), some (.int l1), none, none] [] (hpw H)) : ∀ (n : Nat) (l1 : Int32) (l2 : Int32) (H : Hp) (r : Unit × Hp), B_M_putsWorld_157 N p0 kq130 n l1 l2 H = some r → ab_V y_M_putsWorld { frames := 1, cells := 0, slots := 0, locals := 24 } (po (.returned none) r.2) 0 0 0 0 157 [some (.ref p0), some (.int l1), some (.int l2), none] [] (hpw H) := by
  intro n
  induction n with
  | zero => intro l1 l2 H r hF; rw [B_M_putsWorld_157] at hF; cases hF
  | succ n ih =>
    intro l1 l2 H r hF
    rw [B_M_putsWorld_157] at hF
    refine ab_iload_n d_M_putsWorld_157 rfl rfl ?_
    refine ab_aload_n d_M_putsWorld_158 rfl rfl rfl ?_
    obtain ⟨q436, hG⟩ := ck_s hF; clear hF
    obtain ⟨a437, e438, hF⟩ := rf_s hG; clear hG
    refine hp_getR (f := 3) d_M_putsWorld_159 q436 (by decide) rfl (by decide) (k9 236 rfl rfl) rfl e438 ?_
    obtain ⟨q439, hG⟩ := ck_s hF; clear hF
    obtain ⟨a440, e441, hF⟩ := rf_s hG; clear hG
    refine hp_getRN (f := 23) d_M_putsWorld_162 q439 (by decide) rfl (by decide) (k8 200 rfl rfl) rfl e441 ?_
    refine ab_iload_n d_M_putsWorld_165 rfl rfl ?_
    obtain ⟨n442, q443, hG⟩ := ar_s hF; clear hF
    obtain ⟨q444, hF⟩ := ck_s hG; clear hG
    refine hp_iald d_M_putsWorld_166 tI q443 q444 ?_
    refine ab_topi (fun x445 ex445 => ?_)
    replace hF := bnd_s ex445 hF
    refine ab_icmp_ge (tgt := 194) d_M_putsWorld_167 (by decide) (fun q446 => ?_) (fun q446 => ?_)
    · rw [if_pos q446] at hF
      refine ab_iinc (v := l1 + 1) (lv' := [some (.ref p0), some (.int (l1 + 1)), some (.int l2), none]) d_M_putsWorld_194 rfl rfl (by decide) rfl ?_
      refine ab_goto (tgt := 130) d_M_putsWorld_197 (by decide) ?_
      refine ab_le (lv' := [some (.ref p0), some (.int (l1 + 1)), none, none]) ⟨rfl, ⟨rfl, trivial⟩⟩ ?_
      exact hk130 (l1 + 1) H r hF
    · rw [if_neg q446] at hF
      refine ab_aload_n d_M_putsWorld_170 rfl rfl rfl ?_
      refine ab_aload_n d_M_putsWorld_171 rfl rfl rfl ?_
      obtain ⟨a447, e448, hG⟩ := rf_s hF; clear hF
      refine hp_getR (f := 3) d_M_putsWorld_172 q436 (by decide) rfl (by decide) (k9 236 rfl rfl) rfl e448 ?_
      obtain ⟨q449, hF⟩ := ck_s hG; clear hG
      obtain ⟨a450, e451, hG⟩ := rf_s hF; clear hF
      refine hp_getRN (f := 24) d_M_putsWorld_175 q449 (by decide) rfl (by decide) (k8 203 rfl rfl) rfl e451 ?_
      refine ab_iconst (v := 4) d_M_putsWorld_178 (by decide) ?_
      refine ab_iload_n d_M_putsWorld_179 rfl rfl ?_
      refine ab_imul d_M_putsWorld_180 ?_
      refine ab_iload_n d_M_putsWorld_181 rfl rfl ?_
      refine ab_iadd d_M_putsWorld_182 ?_
      obtain ⟨n452, q453, hF⟩ := ar_s hG; clear hG
      obtain ⟨q454, hG⟩ := ck_s hF; clear hF
      refine hp_iald d_M_putsWorld_183 tI q453 q454 ?_
      refine ab_topi (fun x455 ex455 => ?_)
      replace hG := bnd_s ex455 hG
      refine ab_iconst (v := 1) d_M_putsWorld_184 (by decide) ?_
      obtain ⟨v457, H458, z456, hF⟩ := bC_s hG; clear hG
      refine hp_callV_v (H1 := H458) (As := [.int x455, .int 1]) (rest := []) d_M_putsWorld_185 (k_M_puts z456) (ab_mkC s_M_puts (Nat.le_of_ble_eq_true rfl) (Nat.le_of_ble_eq_true rfl) (Nat.le_refl 0) (Nat.le_refl 0)) (k13 32 rfl rfl) i_M_puts v_M_puts q436 (by decide) rfl rfl (Nat.le_of_ble_eq_true rfl) ?_
      have s_36 : Sa H H458 := (m_M_puts z456)
      refine ab_iinc (v := l2 + 1) (lv' := [some (.ref p0), some (.int l1), some (.int (l2 + 1)), none]) d_M_putsWorld_188 rfl rfl (by decide) rfl ?_
      refine ab_goto (tgt := 157) d_M_putsWorld_191 (by decide) ?_
      exact ih l1 (l2 + 1) H458 r hF
def B_M_putsWorld_130 (N : Nat) (p0 : Nat) : Nat → Int32 → Hp → Option (Unit × Hp)
  | 0, _, _ => none
  | n + 1, l1, H =>
    ck (H.sh[p0]? = some (12, 0)) <|
    rf (H.P p0 3) fun a29 =>
    ck (H.sh[a29]? = some (14, 0)) <|
    bnd ((H.D a29 21)) fun x32 =>
    if x32 ≤ l1 then
    rf (H.P p0 9) fun a34 =>
    ck (H.sh[a34]? = some (13, 0)) <|
    bnd ((H.D a34 0)) fun x37 =>
    bC (F_M_puts N p0 x37 (4 : Int32) H) fun v39 H40 =>
    rf (H40.P p0 9) fun a41 =>
    ck (H40.sh[a41]? = some (13, 0)) <|
    bnd ((H40.D a41 1)) fun x44 =>
    bC (F_M_puts N p0 x44 (4 : Int32) H40) fun v46 H47 =>
    rf (H47.P p0 9) fun a48 =>
    ck (H47.sh[a48]? = some (13, 0)) <|
    bnd ((H47.D a48 2)) fun x51 =>
    bC (F_M_puts N p0 x51 (4 : Int32) H47) fun v53 H54 =>
    rf (H54.P p0 9) fun a55 =>
    ck (H54.sh[a55]? = some (13, 0)) <|
    bnd ((H54.D a55 3)) fun x58 =>
    bC (F_M_puts N p0 x58 (4 : Int32) H54) fun v60 H61 =>
    B_M_putsWorld_250 N p0 N 0 H61
    else
    rf (H.P p0 3) fun a424 =>
    ck (H.sh[a424]? = some (14, 0)) <|
    rf (H.P a424 23) fun a427 =>
    ar H 100 a427 fun n429 =>
    ck (inb l1 n429) <|
    bnd ((H.D a427 (l1).toNatClampNeg)) fun x432 =>
    bC (F_M_puts N p0 x432 (1 : Int32) H) fun v434 H435 =>
    B_M_putsWorld_157 N p0 (fun l1 H => B_M_putsWorld_130 N p0 n l1 H) N l1 0 H435
termination_by structural n => n
set_option maxRecDepth 20000 in
set_option maxHeartbeats 2000000 in
theorem mB_M_putsWorld_130 {N : Nat} {p0 : Nat} : ∀ (n : Nat) (l1 : Int32) (H : Hp) (r : Unit × Hp), B_M_putsWorld_130 N p0 n l1 H = some r → Sa H r.2 := by
  intro n
  induction n with
  | zero => intro l1 H r hF; rw [B_M_putsWorld_130] at hF; cases hF
  | succ n ih =>
    intro l1 H r hF
    rw [B_M_putsWorld_130] at hF
    have hm := Sa.rf H
    obtain ⟨q482, hG⟩ := ck_s hF; clear hF
    obtain ⟨a483, e484, hF⟩ := rf_s hG; clear hG
    obtain ⟨q485, hG⟩ := ck_s hF; clear hF
    obtain ⟨x486, -, hF⟩ := bnd_g hG; clear hG
    rcases ite_s hF with ⟨q_39, hG⟩ | ⟨q_39, hG⟩
    · clear hF
      obtain ⟨a488, e489, hF⟩ := rf_s hG; clear hG
      obtain ⟨q490, hG⟩ := ck_s hF; clear hF
      obtain ⟨x491, -, hF⟩ := bnd_g hG; clear hG
      obtain ⟨v493, H494, z492, hG⟩ := bC_s hF; clear hF
      replace hm : Sa H H494 := hm.tr (m_M_puts z492)
      obtain ⟨a495, e496, hF⟩ := rf_s hG; clear hG
      obtain ⟨q497, hG⟩ := ck_s hF; clear hF
      obtain ⟨x498, -, hF⟩ := bnd_g hG; clear hG
      obtain ⟨v500, H501, z499, hG⟩ := bC_s hF; clear hF
      replace hm : Sa H H501 := hm.tr (m_M_puts z499)
      obtain ⟨a502, e503, hF⟩ := rf_s hG; clear hG
      obtain ⟨q504, hG⟩ := ck_s hF; clear hF
      obtain ⟨x505, -, hF⟩ := bnd_g hG; clear hG
      obtain ⟨v507, H508, z506, hG⟩ := bC_s hF; clear hF
      replace hm : Sa H H508 := hm.tr (m_M_puts z506)
      obtain ⟨a509, e510, hF⟩ := rf_s hG; clear hG
      obtain ⟨q511, hG⟩ := ck_s hF; clear hF
      obtain ⟨x512, -, hF⟩ := bnd_g hG; clear hG
      obtain ⟨v514, H515, z513, hG⟩ := bC_s hF; clear hF
      replace hm : Sa H H515 := hm.tr (m_M_puts z513)
      exact hm.tr (mB_M_putsWorld_250 N 0 H515 r hG)
    · clear hF
      obtain ⟨a516, e517, hF⟩ := rf_s hG; clear hG
      obtain ⟨q518, hG⟩ := ck_s hF; clear hF
      obtain ⟨a519, e520, hF⟩ := rf_s hG; clear hG
      obtain ⟨n521, q522, hG⟩ := ar_s hF; clear hF
      obtain ⟨q523, hF⟩ := ck_s hG; clear hG
      obtain ⟨x524, -, hG⟩ := bnd_g hF; clear hF
      obtain ⟨v526, H527, z525, hF⟩ := bC_s hG; clear hG
      replace hm : Sa H H527 := hm.tr (m_M_puts z525)
      exact hm.tr (mB_M_putsWorld_157 ih N l1 0 H527 r hF)
set_option maxRecDepth 20000 in
set_option maxHeartbeats 2000000 in
theorem kB_M_putsWorld_130 {N : Nat} {p0 : Nat} : ∀ (n : Nat) (l1 : Int32) (H : Hp) (r : Unit × Hp), B_M_putsWorld_130 N p0 n l1 H = some r → ab_V y_M_putsWorld { frames := 1, cells := 0, slots := 0, locals := 24 } (po (.returned none) r.2) 0 0 0 0 130 [some (.ref p0), some (.int l1), none, none] [] (hpw H) := by
  intro n
  induction n with
  | zero => intro l1 H r hF; rw [B_M_putsWorld_130] at hF; cases hF
  | succ n ih =>
    intro l1 H r hF
    rw [B_M_putsWorld_130] at hF
    refine ab_iload_n d_M_putsWorld_130 rfl rfl ?_
    refine ab_aload_n d_M_putsWorld_131 rfl rfl rfl ?_
    obtain ⟨q28, hG⟩ := ck_s hF; clear hF
    obtain ⟨a29, e30, hF⟩ := rf_s hG; clear hG
    refine hp_getR (f := 3) d_M_putsWorld_132 q28 (by decide) rfl (by decide) (k9 236 rfl rfl) rfl e30 ?_
    obtain ⟨q31, hG⟩ := ck_s hF; clear hF
    refine hp_getIN (f := 21) d_M_putsWorld_135 q31 (by decide) rfl (by decide) (k8 195 rfl rfl) rfl ?_
    refine ab_topi (fun x32 ex32 => ?_)
    replace hG := bnd_s ex32 hG
    refine ab_icmp_ge (tgt := 200) d_M_putsWorld_138 (by decide) (fun q33 => ?_) (fun q33 => ?_)
    · rw [if_pos q33] at hG
      refine ab_aload_n d_M_putsWorld_200 rfl rfl rfl ?_
      refine ab_aload_n d_M_putsWorld_201 rfl rfl rfl ?_
      obtain ⟨a34, e35, hF⟩ := rf_s hG; clear hG
      refine hp_getR (f := 9) d_M_putsWorld_202 q28 (by decide) rfl (by decide) (k10 2 rfl rfl) rfl e35 ?_
      obtain ⟨q36, hG⟩ := ck_s hF; clear hF
      refine hp_getIN (f := 0) d_M_putsWorld_205 q36 (by decide) rfl (by decide) (k9 89 rfl rfl) rfl ?_
      refine ab_topi (fun x37 ex37 => ?_)
      replace hG := bnd_s ex37 hG
      refine ab_iconst (v := 4) d_M_putsWorld_208 (by decide) ?_
      obtain ⟨v39, H40, z38, hF⟩ := bC_s hG; clear hG
      refine hp_callV_v (H1 := H40) (As := [.int x37, .int 4]) (rest := []) d_M_putsWorld_209 (k_M_puts z38) (ab_mkC s_M_puts (Nat.le_of_ble_eq_true rfl) (Nat.le_of_ble_eq_true rfl) (Nat.le_refl 0) (Nat.le_refl 0)) (k13 32 rfl rfl) i_M_puts v_M_puts q28 (by decide) rfl rfl (Nat.le_of_ble_eq_true rfl) ?_
      have s_5 : Sa H H40 := (m_M_puts z38)
      refine ab_aload_n d_M_putsWorld_212 rfl rfl rfl ?_
      refine ab_aload_n d_M_putsWorld_213 rfl rfl rfl ?_
      obtain ⟨a41, e42, hG⟩ := rf_s hF; clear hF
      refine hp_getR (f := 9) d_M_putsWorld_214 (by rw [(s_5).1]; exact q28) (by decide) rfl (by decide) (k10 2 rfl rfl) rfl e42 ?_
      obtain ⟨q43, hF⟩ := ck_s hG; clear hG
      rw [(s_5).1] at q43
      refine hp_getIN (f := 1) d_M_putsWorld_217 (by rw [(s_5).1]; exact q43) (by decide) rfl (by decide) (k9 91 rfl rfl) rfl ?_
      refine ab_topi (fun x44 ex44 => ?_)
      replace hF := bnd_s ex44 hF
      refine ab_iconst (v := 4) d_M_putsWorld_220 (by decide) ?_
      obtain ⟨v46, H47, z45, hG⟩ := bC_s hF; clear hF
      refine hp_callV_v (H1 := H47) (As := [.int x44, .int 4]) (rest := []) d_M_putsWorld_221 (k_M_puts z45) (ab_mkC s_M_puts (Nat.le_of_ble_eq_true rfl) (Nat.le_of_ble_eq_true rfl) (Nat.le_refl 0) (Nat.le_refl 0)) (k13 32 rfl rfl) i_M_puts v_M_puts (by rw [(s_5).1]; exact q28) (by decide) rfl rfl (Nat.le_of_ble_eq_true rfl) ?_
      have s_6 : Sa H H47 := (s_5).tr (m_M_puts z45)
      refine ab_aload_n d_M_putsWorld_224 rfl rfl rfl ?_
      refine ab_aload_n d_M_putsWorld_225 rfl rfl rfl ?_
      obtain ⟨a48, e49, hF⟩ := rf_s hG; clear hG
      refine hp_getR (f := 9) d_M_putsWorld_226 (by rw [(s_6).1]; exact q28) (by decide) rfl (by decide) (k10 2 rfl rfl) rfl e49 ?_
      obtain ⟨q50, hG⟩ := ck_s hF; clear hF
      rw [(s_6).1] at q50
      refine hp_getIN (f := 2) d_M_putsWorld_229 (by rw [(s_6).1]; exact q50) (by decide) rfl (by decide) (k9 94 rfl rfl) rfl ?_
      refine ab_topi (fun x51 ex51 => ?_)
      replace hG := bnd_s ex51 hG
      refine ab_iconst (v := 4) d_M_putsWorld_232 (by decide) ?_
      obtain ⟨v53, H54, z52, hF⟩ := bC_s hG; clear hG
      refine hp_callV_v (H1 := H54) (As := [.int x51, .int 4]) (rest := []) d_M_putsWorld_233 (k_M_puts z52) (ab_mkC s_M_puts (Nat.le_of_ble_eq_true rfl) (Nat.le_of_ble_eq_true rfl) (Nat.le_refl 0) (Nat.le_refl 0)) (k13 32 rfl rfl) i_M_puts v_M_puts (by rw [(s_6).1]; exact q28) (by decide) rfl rfl (Nat.le_of_ble_eq_true rfl) ?_
      have s_7 : Sa H H54 := (s_6).tr (m_M_puts z52)
      refine ab_aload_n d_M_putsWorld_236 rfl rfl rfl ?_
      refine ab_aload_n d_M_putsWorld_237 rfl rfl rfl ?_
      obtain ⟨a55, e56, hG⟩ := rf_s hF; clear hF
      refine hp_getR (f := 9) d_M_putsWorld_238 (by rw [(s_7).1]; exact q28) (by decide) rfl (by decide) (k10 2 rfl rfl) rfl e56 ?_
      obtain ⟨q57, hF⟩ := ck_s hG; clear hG
      rw [(s_7).1] at q57
      refine hp_getIN (f := 3) d_M_putsWorld_241 (by rw [(s_7).1]; exact q57) (by decide) rfl (by decide) (k9 97 rfl rfl) rfl ?_
      refine ab_topi (fun x58 ex58 => ?_)
      replace hF := bnd_s ex58 hF
      refine ab_iconst (v := 4) d_M_putsWorld_244 (by decide) ?_
      obtain ⟨v60, H61, z59, hG⟩ := bC_s hF; clear hF
      refine hp_callV_v (H1 := H61) (As := [.int x58, .int 4]) (rest := []) d_M_putsWorld_245 (k_M_puts z59) (ab_mkC s_M_puts (Nat.le_of_ble_eq_true rfl) (Nat.le_of_ble_eq_true rfl) (Nat.le_refl 0) (Nat.le_refl 0)) (k13 32 rfl rfl) i_M_puts v_M_puts (by rw [(s_7).1]; exact q28) (by decide) rfl rfl (Nat.le_of_ble_eq_true rfl) ?_
      have s_8 : Sa H H61 := (s_7).tr (m_M_puts z59)
      refine ab_iconst (v := 0) d_M_putsWorld_248 (by decide) ?_
      refine ab_istore_n (lv' := [some (.ref p0), some (.int 0), none, none]) d_M_putsWorld_249 rfl (by decide) rfl ?_
      exact kB_M_putsWorld_250 N 0 H61 r hG
    · rw [if_neg q33] at hG
      refine ab_aload_n d_M_putsWorld_141 rfl rfl rfl ?_
      refine ab_aload_n d_M_putsWorld_142 rfl rfl rfl ?_
      obtain ⟨a424, e425, hF⟩ := rf_s hG; clear hG
      refine hp_getR (f := 3) d_M_putsWorld_143 q28 (by decide) rfl (by decide) (k9 236 rfl rfl) rfl e425 ?_
      obtain ⟨q426, hG⟩ := ck_s hF; clear hF
      obtain ⟨a427, e428, hF⟩ := rf_s hG; clear hG
      refine hp_getRN (f := 23) d_M_putsWorld_146 q426 (by decide) rfl (by decide) (k8 200 rfl rfl) rfl e428 ?_
      refine ab_iload_n d_M_putsWorld_149 rfl rfl ?_
      obtain ⟨n429, q430, hG⟩ := ar_s hF; clear hF
      obtain ⟨q431, hF⟩ := ck_s hG; clear hG
      refine hp_iald d_M_putsWorld_150 tI q430 q431 ?_
      refine ab_topi (fun x432 ex432 => ?_)
      replace hF := bnd_s ex432 hF
      refine ab_iconst (v := 1) d_M_putsWorld_151 (by decide) ?_
      obtain ⟨v434, H435, z433, hG⟩ := bC_s hF; clear hF
      refine hp_callV_v (H1 := H435) (As := [.int x432, .int 1]) (rest := []) d_M_putsWorld_152 (k_M_puts z433) (ab_mkC s_M_puts (Nat.le_of_ble_eq_true rfl) (Nat.le_of_ble_eq_true rfl) (Nat.le_refl 0) (Nat.le_refl 0)) (k13 32 rfl rfl) i_M_puts v_M_puts q28 (by decide) rfl rfl (Nat.le_of_ble_eq_true rfl) ?_
      have s_35 : Sa H H435 := (m_M_puts z433)
      refine ab_iconst (v := 0) d_M_putsWorld_155 (by decide) ?_
      refine ab_istore_n (lv' := [some (.ref p0), some (.int l1), some (.int 0), none]) d_M_putsWorld_156 rfl (by decide) rfl ?_
      exact kB_M_putsWorld_157 (mB_M_putsWorld_130 n) ih N l1 0 H435 r hG
def B_M_putsWorld_75 (N : Nat) (p0 : Nat) (kq28 : Int32 → Hp → Option (Unit × Hp)) : Nat → Int32 → Int32 → Hp → Option (Unit × Hp)
  | 0, _, _, _ => none
  | n + 1, l1, l2, H =>
    ck (H.sh[p0]? = some (12, 0)) <|
    rf (H.P p0 3) fun a559 =>
    ck (H.sh[a559]? = some (14, 0)) <|
    rf (H.P a559 18) fun a562 =>
    ar H 100 a562 fun n564 =>
    ck (inb (l1 + (1 : Int32)) n564) <|
    bnd ((H.D a562 ((l1 + (1 : Int32))).toNatClampNeg)) fun x567 =>
    if x567 ≤ l2 then
    kq28 (l1 + 1) H
    else
    rf (H.P p0 3) fun a569 =>
    ck (H.sh[a569]? = some (14, 0)) <|
    rf (H.P a569 19) fun a572 =>
    ar H 100 a572 fun n574 =>
    ck (inb l2 n574) <|
    bnd ((H.D a572 (l2).toNatClampNeg)) fun x577 =>
    bC (F_M_puts N p0 x577 (1 : Int32) H) fun v579 H580 =>
    B_M_putsWorld_75 N p0 kq28 n l1 (l2 + 1) H580
termination_by structural n => n
set_option maxRecDepth 20000 in
set_option maxHeartbeats 2000000 in
theorem mB_M_putsWorld_75 {N : Nat} {p0 : Nat} {kq28 : Int32 → Hp → Option (Unit × Hp)} (hm28 : ∀ (l1 : Int32) (H : Hp) (r : Unit × Hp), kq28 l1 H = some r → Sa H r.2) : ∀ (n : Nat) (l1 : Int32) (l2 : Int32) (H : Hp) (r : Unit × Hp), B_M_putsWorld_75 N p0 kq28 n l1 l2 H = some r → Sa H r.2 := by
  intro n
  induction n with
  | zero => intro l1 l2 H r hF; rw [B_M_putsWorld_75] at hF; cases hF
  | succ n ih =>
    intro l1 l2 H r hF
    rw [B_M_putsWorld_75] at hF
    have hm := Sa.rf H
    obtain ⟨q581, hG⟩ := ck_s hF; clear hF
    obtain ⟨a582, e583, hF⟩ := rf_s hG; clear hG
    obtain ⟨q584, hG⟩ := ck_s hF; clear hF
    obtain ⟨a585, e586, hF⟩ := rf_s hG; clear hG
    obtain ⟨n587, q588, hG⟩ := ar_s hF; clear hF
    obtain ⟨q589, hF⟩ := ck_s hG; clear hG
    obtain ⟨x590, -, hG⟩ := bnd_g hF; clear hF
    rcases ite_s hG with ⟨q_47, hF⟩ | ⟨q_47, hF⟩
    · clear hG
      exact hm.tr (hm28 (l1 + 1) H r hF)
    · clear hG
      obtain ⟨a592, e593, hG⟩ := rf_s hF; clear hF
      obtain ⟨q594, hF⟩ := ck_s hG; clear hG
      obtain ⟨a595, e596, hG⟩ := rf_s hF; clear hF
      obtain ⟨n597, q598, hF⟩ := ar_s hG; clear hG
      obtain ⟨q599, hG⟩ := ck_s hF; clear hF
      obtain ⟨x600, -, hF⟩ := bnd_g hG; clear hG
      obtain ⟨v602, H603, z601, hG⟩ := bC_s hF; clear hF
      replace hm : Sa H H603 := hm.tr (m_M_puts z601)
      exact hm.tr (ih l1 (l2 + 1) H603 r hG)
set_option maxRecDepth 20000 in
set_option maxHeartbeats 2000000 in
theorem kB_M_putsWorld_75 {N : Nat} {p0 : Nat} {kq28 : Int32 → Hp → Option (Unit × Hp)} (hm28 : ∀ (l1 : Int32) (H : Hp) (r : Unit × Hp), kq28 l1 H = some r → Sa H r.2) (hk28 : ∀ (l1 : Int32) (H : Hp) (r : Unit × Hp), kq28 l1 H = some r → ab_V y_M_putsWorld { frames := 1, cells := 0, slots := 0, locals := 24 } (po (.returned none) r.2) 0 0 0 0 28 [some (.ref p0), some (.int l1), none, none] [] (hpw H)) : ∀ (n : Nat) (l1 : Int32) (l2 : Int32) (H : Hp) (r : Unit × Hp), B_M_putsWorld_75 N p0 kq28 n l1 l2 H = some r → ab_V y_M_putsWorld { frames := 1, cells := 0, slots := 0, locals := 24 } (po (.returned none) r.2) 0 0 0 0 75 [some (.ref p0), some (.int l1), some (.int l2), none] [] (hpw H) := by
  intro n
  induction n with
  | zero => intro l1 l2 H r hF; rw [B_M_putsWorld_75] at hF; cases hF
  | succ n ih =>
    intro l1 l2 H r hF
    rw [B_M_putsWorld_75] at hF
    refine ab_iload_n d_M_putsWorld_75 rfl rfl ?_
    refine ab_aload_n d_M_putsWorld_76 rfl rfl rfl ?_
    obtain ⟨q558, hG⟩ := ck_s hF; clear hF
    obtain ⟨a559, e560, hF⟩ := rf_s hG; clear hG
    refine hp_getR (f := 3) d_M_putsWorld_77 q558 (by decide) rfl (by decide) (k9 236 rfl rfl) rfl e560 ?_
    obtain ⟨q561, hG⟩ := ck_s hF; clear hF
    obtain ⟨a562, e563, hF⟩ := rf_s hG; clear hG
    refine hp_getRN (f := 18) d_M_putsWorld_80 q561 (by decide) rfl (by decide) (k8 187 rfl rfl) rfl e563 ?_
    refine ab_iload_n d_M_putsWorld_83 rfl rfl ?_
    refine ab_iconst (v := 1) d_M_putsWorld_84 (by decide) ?_
    refine ab_iadd d_M_putsWorld_85 ?_
    obtain ⟨n564, q565, hG⟩ := ar_s hF; clear hF
    obtain ⟨q566, hF⟩ := ck_s hG; clear hG
    refine hp_iald d_M_putsWorld_86 tI q565 q566 ?_
    refine ab_topi (fun x567 ex567 => ?_)
    replace hF := bnd_s ex567 hF
    refine ab_icmp_ge (tgt := 110) d_M_putsWorld_87 (by decide) (fun q568 => ?_) (fun q568 => ?_)
    · rw [if_pos q568] at hF
      refine ab_iinc (v := l1 + 1) (lv' := [some (.ref p0), some (.int (l1 + 1)), some (.int l2), none]) d_M_putsWorld_110 rfl rfl (by decide) rfl ?_
      refine ab_goto (tgt := 28) d_M_putsWorld_113 (by decide) ?_
      refine ab_le (lv' := [some (.ref p0), some (.int (l1 + 1)), none, none]) ⟨rfl, ⟨rfl, trivial⟩⟩ ?_
      exact hk28 (l1 + 1) H r hF
    · rw [if_neg q568] at hF
      refine ab_aload_n d_M_putsWorld_90 rfl rfl rfl ?_
      refine ab_aload_n d_M_putsWorld_91 rfl rfl rfl ?_
      obtain ⟨a569, e570, hG⟩ := rf_s hF; clear hF
      refine hp_getR (f := 3) d_M_putsWorld_92 q558 (by decide) rfl (by decide) (k9 236 rfl rfl) rfl e570 ?_
      obtain ⟨q571, hF⟩ := ck_s hG; clear hG
      obtain ⟨a572, e573, hG⟩ := rf_s hF; clear hF
      refine hp_getRN (f := 19) d_M_putsWorld_95 q571 (by decide) rfl (by decide) (k8 191 rfl rfl) rfl e573 ?_
      refine ab_iload_n d_M_putsWorld_98 rfl rfl ?_
      obtain ⟨n574, q575, hF⟩ := ar_s hG; clear hG
      obtain ⟨q576, hG⟩ := ck_s hF; clear hF
      refine hp_iald d_M_putsWorld_99 tI q575 q576 ?_
      refine ab_topi (fun x577 ex577 => ?_)
      replace hG := bnd_s ex577 hG
      refine ab_iconst (v := 1) d_M_putsWorld_100 (by decide) ?_
      obtain ⟨v579, H580, z578, hF⟩ := bC_s hG; clear hG
      refine hp_callV_v (H1 := H580) (As := [.int x577, .int 1]) (rest := []) d_M_putsWorld_101 (k_M_puts z578) (ab_mkC s_M_puts (Nat.le_of_ble_eq_true rfl) (Nat.le_of_ble_eq_true rfl) (Nat.le_refl 0) (Nat.le_refl 0)) (k13 32 rfl rfl) i_M_puts v_M_puts q558 (by decide) rfl rfl (Nat.le_of_ble_eq_true rfl) ?_
      have s_46 : Sa H H580 := (m_M_puts z578)
      refine ab_iinc (v := l2 + 1) (lv' := [some (.ref p0), some (.int l1), some (.int (l2 + 1)), none]) d_M_putsWorld_104 rfl rfl (by decide) rfl ?_
      refine ab_goto (tgt := 75) d_M_putsWorld_107 (by decide) ?_
      exact ih l1 (l2 + 1) H580 r hF
def B_M_putsWorld_28 (N : Nat) (p0 : Nat) : Nat → Int32 → Hp → Option (Unit × Hp)
  | 0, _, _ => none
  | n + 1, l1, H =>
    ck (H.sh[p0]? = some (12, 0)) <|
    rf (H.P p0 3) fun a16 =>
    ck (H.sh[a16]? = some (14, 0)) <|
    bnd ((H.D a16 16)) fun x19 =>
    if x19 ≤ l1 then
    rf (H.P p0 3) fun a21 =>
    ck (H.sh[a21]? = some (14, 0)) <|
    bnd ((H.D a21 21)) fun x24 =>
    bC (F_M_puts N p0 x24 (1 : Int32) H) fun v26 H27 =>
    B_M_putsWorld_130 N p0 N 0 H27
    else
    rf (H.P p0 3) fun a528 =>
    ck (H.sh[a528]? = some (14, 0)) <|
    rf (H.P a528 18) fun a531 =>
    ar H 100 a531 fun n533 =>
    ck (inb (l1 + (1 : Int32)) n533) <|
    bnd ((H.D a531 ((l1 + (1 : Int32))).toNatClampNeg)) fun x536 =>
    rf (H.P p0 3) fun a537 =>
    ck (H.sh[a537]? = some (14, 0)) <|
    rf (H.P a537 18) fun a540 =>
    ar H 100 a540 fun n542 =>
    ck (inb l1 n542) <|
    bnd ((H.D a540 (l1).toNatClampNeg)) fun x545 =>
    bC (F_M_puts N p0 (x536 - x545) (1 : Int32) H) fun v547 H548 =>
    rf (H548.P p0 3) fun a549 =>
    ck (H548.sh[a549]? = some (14, 0)) <|
    rf (H548.P a549 18) fun a552 =>
    ar H548 100 a552 fun n554 =>
    ck (inb l1 n554) <|
    bnd ((H548.D a552 (l1).toNatClampNeg)) fun x557 =>
    B_M_putsWorld_75 N p0 (fun l1 H => B_M_putsWorld_28 N p0 n l1 H) N l1 x557 H548
termination_by structural n => n
set_option maxRecDepth 20000 in
set_option maxHeartbeats 2000000 in
theorem mB_M_putsWorld_28 {N : Nat} {p0 : Nat} : ∀ (n : Nat) (l1 : Int32) (H : Hp) (r : Unit × Hp), B_M_putsWorld_28 N p0 n l1 H = some r → Sa H r.2 := by
  intro n
  induction n with
  | zero => intro l1 H r hF; rw [B_M_putsWorld_28] at hF; cases hF
  | succ n ih =>
    intro l1 H r hF
    rw [B_M_putsWorld_28] at hF
    have hm := Sa.rf H
    obtain ⟨q604, hG⟩ := ck_s hF; clear hF
    obtain ⟨a605, e606, hF⟩ := rf_s hG; clear hG
    obtain ⟨q607, hG⟩ := ck_s hF; clear hF
    obtain ⟨x608, -, hF⟩ := bnd_g hG; clear hG
    rcases ite_s hF with ⟨q_49, hG⟩ | ⟨q_49, hG⟩
    · clear hF
      obtain ⟨a610, e611, hF⟩ := rf_s hG; clear hG
      obtain ⟨q612, hG⟩ := ck_s hF; clear hF
      obtain ⟨x613, -, hF⟩ := bnd_g hG; clear hG
      obtain ⟨v615, H616, z614, hG⟩ := bC_s hF; clear hF
      replace hm : Sa H H616 := hm.tr (m_M_puts z614)
      exact hm.tr (mB_M_putsWorld_130 N 0 H616 r hG)
    · clear hF
      obtain ⟨a617, e618, hF⟩ := rf_s hG; clear hG
      obtain ⟨q619, hG⟩ := ck_s hF; clear hF
      obtain ⟨a620, e621, hF⟩ := rf_s hG; clear hG
      obtain ⟨n622, q623, hG⟩ := ar_s hF; clear hF
      obtain ⟨q624, hF⟩ := ck_s hG; clear hG
      obtain ⟨x625, -, hG⟩ := bnd_g hF; clear hF
      obtain ⟨a626, e627, hF⟩ := rf_s hG; clear hG
      obtain ⟨q628, hG⟩ := ck_s hF; clear hF
      obtain ⟨a629, e630, hF⟩ := rf_s hG; clear hG
      obtain ⟨n631, q632, hG⟩ := ar_s hF; clear hF
      obtain ⟨q633, hF⟩ := ck_s hG; clear hG
      obtain ⟨x634, -, hG⟩ := bnd_g hF; clear hF
      obtain ⟨v636, H637, z635, hF⟩ := bC_s hG; clear hG
      replace hm : Sa H H637 := hm.tr (m_M_puts z635)
      obtain ⟨a638, e639, hG⟩ := rf_s hF; clear hF
      obtain ⟨q640, hF⟩ := ck_s hG; clear hG
      obtain ⟨a641, e642, hG⟩ := rf_s hF; clear hF
      obtain ⟨n643, q644, hF⟩ := ar_s hG; clear hG
      obtain ⟨q645, hG⟩ := ck_s hF; clear hF
      obtain ⟨x646, -, hF⟩ := bnd_g hG; clear hG
      exact hm.tr (mB_M_putsWorld_75 ih N l1 x646 H637 r hF)
set_option maxRecDepth 20000 in
set_option maxHeartbeats 2000000 in
theorem kB_M_putsWorld_28 {N : Nat} {p0 : Nat} : ∀ (n : Nat) (l1 : Int32) (H : Hp) (r : Unit × Hp), B_M_putsWorld_28 N p0 n l1 H = some r → ab_V y_M_putsWorld { frames := 1, cells := 0, slots := 0, locals := 24 } (po (.returned none) r.2) 0 0 0 0 28 [some (.ref p0), some (.int l1), none, none] [] (hpw H) := by
  intro n
  induction n with
  | zero => intro l1 H r hF; rw [B_M_putsWorld_28] at hF; cases hF
  | succ n ih =>
    intro l1 H r hF
    rw [B_M_putsWorld_28] at hF
    refine ab_iload_n d_M_putsWorld_28 rfl rfl ?_
    refine ab_aload_n d_M_putsWorld_29 rfl rfl rfl ?_
    obtain ⟨q15, hG⟩ := ck_s hF; clear hF
    obtain ⟨a16, e17, hF⟩ := rf_s hG; clear hG
    refine hp_getR (f := 3) d_M_putsWorld_30 q15 (by decide) rfl (by decide) (k9 236 rfl rfl) rfl e17 ?_
    obtain ⟨q18, hG⟩ := ck_s hF; clear hF
    refine hp_getIN (f := 16) d_M_putsWorld_33 q18 (by decide) rfl (by decide) (k8 180 rfl rfl) rfl ?_
    refine ab_topi (fun x19 ex19 => ?_)
    replace hG := bnd_s ex19 hG
    refine ab_icmp_ge (tgt := 116) d_M_putsWorld_36 (by decide) (fun q20 => ?_) (fun q20 => ?_)
    · rw [if_pos q20] at hG
      refine ab_aload_n d_M_putsWorld_116 rfl rfl rfl ?_
      refine ab_aload_n d_M_putsWorld_117 rfl rfl rfl ?_
      obtain ⟨a21, e22, hF⟩ := rf_s hG; clear hG
      refine hp_getR (f := 3) d_M_putsWorld_118 q15 (by decide) rfl (by decide) (k9 236 rfl rfl) rfl e22 ?_
      obtain ⟨q23, hG⟩ := ck_s hF; clear hF
      refine hp_getIN (f := 21) d_M_putsWorld_121 q23 (by decide) rfl (by decide) (k8 195 rfl rfl) rfl ?_
      refine ab_topi (fun x24 ex24 => ?_)
      replace hG := bnd_s ex24 hG
      refine ab_iconst (v := 1) d_M_putsWorld_124 (by decide) ?_
      obtain ⟨v26, H27, z25, hF⟩ := bC_s hG; clear hG
      refine hp_callV_v (H1 := H27) (As := [.int x24, .int 1]) (rest := []) d_M_putsWorld_125 (k_M_puts z25) (ab_mkC s_M_puts (Nat.le_of_ble_eq_true rfl) (Nat.le_of_ble_eq_true rfl) (Nat.le_refl 0) (Nat.le_refl 0)) (k13 32 rfl rfl) i_M_puts v_M_puts q15 (by decide) rfl rfl (Nat.le_of_ble_eq_true rfl) ?_
      have s_4 : Sa H H27 := (m_M_puts z25)
      refine ab_iconst (v := 0) d_M_putsWorld_128 (by decide) ?_
      refine ab_istore_n (lv' := [some (.ref p0), some (.int 0), none, none]) d_M_putsWorld_129 rfl (by decide) rfl ?_
      exact kB_M_putsWorld_130 N 0 H27 r hF
    · rw [if_neg q20] at hG
      refine ab_aload_n d_M_putsWorld_39 rfl rfl rfl ?_
      refine ab_aload_n d_M_putsWorld_40 rfl rfl rfl ?_
      obtain ⟨a528, e529, hF⟩ := rf_s hG; clear hG
      refine hp_getR (f := 3) d_M_putsWorld_41 q15 (by decide) rfl (by decide) (k9 236 rfl rfl) rfl e529 ?_
      obtain ⟨q530, hG⟩ := ck_s hF; clear hF
      obtain ⟨a531, e532, hF⟩ := rf_s hG; clear hG
      refine hp_getRN (f := 18) d_M_putsWorld_44 q530 (by decide) rfl (by decide) (k8 187 rfl rfl) rfl e532 ?_
      refine ab_iload_n d_M_putsWorld_47 rfl rfl ?_
      refine ab_iconst (v := 1) d_M_putsWorld_48 (by decide) ?_
      refine ab_iadd d_M_putsWorld_49 ?_
      obtain ⟨n533, q534, hG⟩ := ar_s hF; clear hF
      obtain ⟨q535, hF⟩ := ck_s hG; clear hG
      refine hp_iald d_M_putsWorld_50 tI q534 q535 ?_
      refine ab_topi (fun x536 ex536 => ?_)
      replace hF := bnd_s ex536 hF
      refine ab_aload_n d_M_putsWorld_51 rfl rfl rfl ?_
      obtain ⟨a537, e538, hG⟩ := rf_s hF; clear hF
      refine hp_getR (f := 3) d_M_putsWorld_52 q15 (by decide) rfl (by decide) (k9 236 rfl rfl) rfl e538 ?_
      obtain ⟨q539, hF⟩ := ck_s hG; clear hG
      obtain ⟨a540, e541, hG⟩ := rf_s hF; clear hF
      refine hp_getRN (f := 18) d_M_putsWorld_55 q539 (by decide) rfl (by decide) (k8 187 rfl rfl) rfl e541 ?_
      refine ab_iload_n d_M_putsWorld_58 rfl rfl ?_
      obtain ⟨n542, q543, hF⟩ := ar_s hG; clear hG
      obtain ⟨q544, hG⟩ := ck_s hF; clear hF
      refine hp_iald d_M_putsWorld_59 tI q543 q544 ?_
      refine ab_topi (fun x545 ex545 => ?_)
      replace hG := bnd_s ex545 hG
      refine ab_isub d_M_putsWorld_60 ?_
      refine ab_iconst (v := 1) d_M_putsWorld_61 (by decide) ?_
      obtain ⟨v547, H548, z546, hF⟩ := bC_s hG; clear hG
      refine hp_callV_v (H1 := H548) (As := [.int (x536 - x545), .int 1]) (rest := []) d_M_putsWorld_62 (k_M_puts z546) (ab_mkC s_M_puts (Nat.le_of_ble_eq_true rfl) (Nat.le_of_ble_eq_true rfl) (Nat.le_refl 0) (Nat.le_refl 0)) (k13 32 rfl rfl) i_M_puts v_M_puts q15 (by decide) rfl rfl (Nat.le_of_ble_eq_true rfl) ?_
      have s_45 : Sa H H548 := (m_M_puts z546)
      refine ab_aload_n d_M_putsWorld_65 rfl rfl rfl ?_
      obtain ⟨a549, e550, hG⟩ := rf_s hF; clear hF
      refine hp_getR (f := 3) d_M_putsWorld_66 (by rw [(s_45).1]; exact q15) (by decide) rfl (by decide) (k9 236 rfl rfl) rfl e550 ?_
      obtain ⟨q551, hF⟩ := ck_s hG; clear hG
      rw [(s_45).1] at q551
      obtain ⟨a552, e553, hG⟩ := rf_s hF; clear hF
      refine hp_getRN (f := 18) d_M_putsWorld_69 (by rw [(s_45).1]; exact q551) (by decide) rfl (by decide) (k8 187 rfl rfl) rfl e553 ?_
      refine ab_iload_n d_M_putsWorld_72 rfl rfl ?_
      obtain ⟨n554, q555, hF⟩ := ar_s hG; clear hG
      rw [(s_45).1] at q555
      obtain ⟨q556, hG⟩ := ck_s hF; clear hF
      refine hp_iald d_M_putsWorld_73 tI (by rw [(s_45).1]; exact q555) q556 ?_
      refine ab_topi (fun x557 ex557 => ?_)
      replace hG := bnd_s ex557 hG
      refine ab_istore_n (lv' := [some (.ref p0), some (.int l1), some (.int x557), none]) d_M_putsWorld_74 rfl (by decide) rfl ?_
      exact kB_M_putsWorld_75 (mB_M_putsWorld_28 n) ih N l1 x557 H548 r hG
def F_M_putsWorld (N : Nat) (p0 : Nat) (H : Hp) : Option (Unit × Hp) :=
    ck (H.sh[p0]? = some (12, 0)) <|
    bC (F_M_puts N p0 (87 : Int32) (1 : Int32) H) fun v3 H4 =>
    bC (F_M_puts N p0 (69 : Int32) (1 : Int32) H4) fun v6 H7 =>
    rf (H7.P p0 3) fun a8 =>
    ck (H7.sh[a8]? = some (14, 0)) <|
    bnd ((H7.D a8 16)) fun x11 =>
    bC (F_M_puts N p0 x11 (1 : Int32) H7) fun v13 H14 =>
    B_M_putsWorld_28 N p0 N 0 H14
set_option maxRecDepth 20000 in
set_option maxHeartbeats 2000000 in
theorem m_M_putsWorld {N : Nat} {p0 : Nat} {H : Hp} {r : Unit × Hp} (hF : F_M_putsWorld N p0 H = some r) : Sa H r.2 := by
  unfold F_M_putsWorld at hF
  have hm := Sa.rf H
  obtain ⟨q647, hG⟩ := ck_s hF; clear hF
  obtain ⟨v649, H650, z648, hF⟩ := bC_s hG; clear hG
  replace hm : Sa H H650 := hm.tr (m_M_puts z648)
  obtain ⟨v652, H653, z651, hG⟩ := bC_s hF; clear hF
  replace hm : Sa H H653 := hm.tr (m_M_puts z651)
  obtain ⟨a654, e655, hF⟩ := rf_s hG; clear hG
  obtain ⟨q656, hG⟩ := ck_s hF; clear hF
  obtain ⟨x657, -, hF⟩ := bnd_g hG; clear hG
  obtain ⟨v659, H660, z658, hG⟩ := bC_s hF; clear hF
  replace hm : Sa H H660 := hm.tr (m_M_puts z658)
  exact hm.tr (mB_M_putsWorld_28 N 0 H660 r hG)
set_option maxRecDepth 20000 in
set_option maxHeartbeats 2000000 in
theorem k_M_putsWorld {N : Nat} {p0 : Nat} {H : Hp} {r : Unit × Hp} (hF : F_M_putsWorld N p0 H = some r) : ab_M y_M_putsWorld { frames := 1, cells := 0, slots := 0, locals := 24 } [.ref p0] (hpw H) (po (.returned none) r.2) := by
  unfold F_M_putsWorld at hF
  refine ab_of2 (lv := [some (.ref p0), none, none, none]) 3 rfl rfl (Nat.le_of_ble_eq_true rfl) ?_
  refine ab_aload_n d_M_putsWorld_0 rfl rfl rfl ?_
  refine ab_bipush (v := 87) d_M_putsWorld_1 (by decide) ?_
  refine ab_iconst (v := 1) d_M_putsWorld_3 (by decide) ?_
  obtain ⟨q1, hG⟩ := ck_s hF; clear hF
  obtain ⟨v3, H4, z2, hF⟩ := bC_s hG; clear hG
  refine hp_callV_v (H1 := H4) (As := [.int 87, .int 1]) (rest := []) d_M_putsWorld_4 (k_M_puts z2) (ab_mkC s_M_puts (Nat.le_of_ble_eq_true rfl) (Nat.le_of_ble_eq_true rfl) (Nat.le_refl 0) (Nat.le_refl 0)) (k13 32 rfl rfl) i_M_puts v_M_puts q1 (by decide) rfl rfl (Nat.le_of_ble_eq_true rfl) ?_
  have s_1 : Sa H H4 := (m_M_puts z2)
  refine ab_aload_n d_M_putsWorld_7 rfl rfl rfl ?_
  refine ab_bipush (v := 69) d_M_putsWorld_8 (by decide) ?_
  refine ab_iconst (v := 1) d_M_putsWorld_10 (by decide) ?_
  obtain ⟨v6, H7, z5, hG⟩ := bC_s hF; clear hF
  refine hp_callV_v (H1 := H7) (As := [.int 69, .int 1]) (rest := []) d_M_putsWorld_11 (k_M_puts z5) (ab_mkC s_M_puts (Nat.le_of_ble_eq_true rfl) (Nat.le_of_ble_eq_true rfl) (Nat.le_refl 0) (Nat.le_refl 0)) (k13 32 rfl rfl) i_M_puts v_M_puts (by rw [(s_1).1]; exact q1) (by decide) rfl rfl (Nat.le_of_ble_eq_true rfl) ?_
  have s_2 : Sa H H7 := (s_1).tr (m_M_puts z5)
  refine ab_aload_n d_M_putsWorld_14 rfl rfl rfl ?_
  refine ab_aload_n d_M_putsWorld_15 rfl rfl rfl ?_
  obtain ⟨a8, e9, hF⟩ := rf_s hG; clear hG
  refine hp_getR (f := 3) d_M_putsWorld_16 (by rw [(s_2).1]; exact q1) (by decide) rfl (by decide) (k9 236 rfl rfl) rfl e9 ?_
  obtain ⟨q10, hG⟩ := ck_s hF; clear hF
  rw [(s_2).1] at q10
  refine hp_getIN (f := 16) d_M_putsWorld_19 (by rw [(s_2).1]; exact q10) (by decide) rfl (by decide) (k8 180 rfl rfl) rfl ?_
  refine ab_topi (fun x11 ex11 => ?_)
  replace hG := bnd_s ex11 hG
  refine ab_iconst (v := 1) d_M_putsWorld_22 (by decide) ?_
  obtain ⟨v13, H14, z12, hF⟩ := bC_s hG; clear hG
  refine hp_callV_v (H1 := H14) (As := [.int x11, .int 1]) (rest := []) d_M_putsWorld_23 (k_M_puts z12) (ab_mkC s_M_puts (Nat.le_of_ble_eq_true rfl) (Nat.le_of_ble_eq_true rfl) (Nat.le_refl 0) (Nat.le_refl 0)) (k13 32 rfl rfl) i_M_puts v_M_puts (by rw [(s_2).1]; exact q1) (by decide) rfl rfl (Nat.le_of_ble_eq_true rfl) ?_
  have s_3 : Sa H H14 := (s_2).tr (m_M_puts z12)
  refine ab_iconst (v := 0) d_M_putsWorld_26 (by decide) ?_
  refine ab_istore_n (lv' := [some (.ref p0), some (.int 0), none, none]) d_M_putsWorld_27 rfl (by decide) rfl ?_
  exact kB_M_putsWorld_28 N 0 H14 r hF
def y_M_sum : ab_Y := (⟨"WorldEngineModel", "sum", "()I"⟩, prog_14_method_45_code, 1, (some FieldType.int), [])
theorem d_M_sum_0 : decode y_M_sum.2.1 0 = .ok (.aload_n 0, 1) := by decide +kernel
theorem d_M_sum_1 : decode y_M_sum.2.1 1 = .ok (.iconst 0, 1) := by decide +kernel
theorem d_M_sum_2 : decode y_M_sum.2.1 2 = .ok (.putfield 83, 3) := by decide +kernel
theorem d_M_sum_5 : decode y_M_sum.2.1 5 = .ok (.aload_n 0, 1) := by decide +kernel
theorem d_M_sum_6 : decode y_M_sum.2.1 6 = .ok (.iconst 1, 1) := by decide +kernel
theorem d_M_sum_7 : decode y_M_sum.2.1 7 = .ok (.putfield 331, 3) := by decide +kernel
theorem d_M_sum_10 : decode y_M_sum.2.1 10 = .ok (.aload_n 0, 1) := by decide +kernel
theorem d_M_sum_11 : decode y_M_sum.2.1 11 = .ok (.iconst 0, 1) := by decide +kernel
theorem d_M_sum_12 : decode y_M_sum.2.1 12 = .ok (.putfield 334, 3) := by decide +kernel
theorem d_M_sum_15 : decode y_M_sum.2.1 15 = .ok (.aload_n 0, 1) := by decide +kernel
theorem d_M_sum_16 : decode y_M_sum.2.1 16 = .ok (.invokevirtual 350, 3) := by decide +kernel
theorem d_M_sum_19 : decode y_M_sum.2.1 19 = .ok (.aload_n 0, 1) := by decide +kernel
theorem d_M_sum_20 : decode y_M_sum.2.1 20 = .ok (.iconst 0, 1) := by decide +kernel
theorem d_M_sum_21 : decode y_M_sum.2.1 21 = .ok (.putfield 331, 3) := by decide +kernel
theorem d_M_sum_24 : decode y_M_sum.2.1 24 = .ok (.aload_n 0, 1) := by decide +kernel
theorem d_M_sum_25 : decode y_M_sum.2.1 25 = .ok (.getfield 334, 3) := by decide +kernel
theorem d_M_sum_28 : decode y_M_sum.2.1 28 = .ok (.ireturn, 1) := by decide +kernel
theorem s_M_sum : ab_Stat y_M_sum 0 := ⟨(k13 27 rfl rfl), (k1 19 rfl rfl), ⟨by decide, by decide⟩, by decide +kernel⟩
theorem i_M_sum : Cond.instanceMethod y_M_sum.1 ∈ ab_T := (k13 25 rfl rfl)
theorem v_M_sum : Cond.selects "WorldEngineModel" y_M_sum.1 y_M_sum.1 ∈ ab_T := (k13 26 rfl rfl)
def F_M_sum (N : Nat) (p0 : Nat) (H : Hp) : Option (Int32 × Hp) :=
    ck (H.sh[p0]? = some (12, 0)) <|
    bnd (H.sD p0 0 (0 : Int32)) fun H2 =>
    bnd (H2.sD p0 24 (1 : Int32)) fun H3 =>
    bnd (H3.sD p0 23 (0 : Int32)) fun H4 =>
    bC (F_M_putsWorld N p0 H4) fun v6 H7 =>
    bnd (H7.sD p0 24 (0 : Int32)) fun H8 =>
    bnd ((H8.D p0 23)) fun x9 =>
    some (x9, H8)
set_option maxRecDepth 20000 in
set_option maxHeartbeats 2000000 in
theorem m_M_sum {N : Nat} {p0 : Nat} {H : Hp} {r : Int32 × Hp} (hF : F_M_sum N p0 H = some r) : Sa H r.2 := by
  unfold F_M_sum at hF
  have hm := Sa.rf H
  obtain ⟨q10, hG⟩ := ck_s hF; clear hF
  obtain ⟨H11, eH11, hF⟩ := bnd_g hG; clear hG
  replace hm : Sa H H11 := by rw [eH11]; exact hm
  obtain ⟨H12, eH12, hG⟩ := bnd_g hF; clear hF
  replace hm : Sa H H12 := by rw [eH12]; exact hm
  obtain ⟨H13, eH13, hF⟩ := bnd_g hG; clear hG
  replace hm : Sa H H13 := by rw [eH13]; exact hm
  obtain ⟨v15, H16, z14, hG⟩ := bC_s hF; clear hF
  replace hm : Sa H H16 := hm.tr (m_M_putsWorld z14)
  obtain ⟨H17, eH17, hF⟩ := bnd_g hG; clear hG
  replace hm : Sa H H17 := by rw [eH17]; exact hm
  obtain ⟨x18, -, hG⟩ := bnd_g hF; clear hF
  have hr := Option.some.inj hG; subst hr
  exact hm
set_option maxRecDepth 20000 in
set_option maxHeartbeats 2000000 in
theorem k_M_sum {N : Nat} {p0 : Nat} {H : Hp} {r : Int32 × Hp} (hF : F_M_sum N p0 H = some r) : ab_M y_M_sum { frames := 2, cells := 0, slots := 0, locals := 47 } [.ref p0] (hpw H) (po (.returned (some (.int r.1))) r.2) := by
  unfold F_M_sum at hF
  refine ab_of2 (lv := [some (.ref p0)]) 0 rfl rfl (Nat.le_of_ble_eq_true rfl) ?_
  refine ab_aload_n d_M_sum_0 rfl rfl rfl ?_
  refine ab_iconst (v := 0) d_M_sum_1 (by decide) ?_
  obtain ⟨q1, hG⟩ := ck_s hF; clear hF
  refine hp_putI (v := 0) (f := 0) d_M_sum_2 q1 (by decide) rfl (by decide) (k9 233 rfl rfl) rfl rfl (fun _ => rfl) (fun _ => rfl) rfl ?_
  refine hp_gen (fun H2 eH2 => ?_)
  replace hG := bnd_s eH2 hG
  have s_1 : Sa H H2 := by rw [eH2]; exact Sa.rf _
  refine ab_aload_n d_M_sum_5 rfl rfl rfl ?_
  refine ab_iconst (v := 1) d_M_sum_6 (by decide) ?_
  refine hp_putI (v := 1) (f := 24) (ty := .boolean) d_M_sum_7 (by rw [(s_1).1]; exact q1) (by decide) rfl (by decide) (k10 17 rfl rfl) rfl rfl (fun _ => rfl) (fun _ => rfl) rfl ?_
  refine hp_gen (fun H3 eH3 => ?_)
  replace hG := bnd_s eH3 hG
  have s_2 : Sa H H3 := by rw [eH3]; exact s_1
  refine ab_aload_n d_M_sum_10 rfl rfl rfl ?_
  refine ab_iconst (v := 0) d_M_sum_11 (by decide) ?_
  refine hp_putI (v := 0) (f := 23) d_M_sum_12 (by rw [(s_2).1]; exact q1) (by decide) rfl (by decide) (k10 16 rfl rfl) rfl rfl (fun _ => rfl) (fun _ => rfl) rfl ?_
  refine hp_gen (fun H4 eH4 => ?_)
  replace hG := bnd_s eH4 hG
  have s_3 : Sa H H4 := by rw [eH4]; exact s_2
  refine ab_aload_n d_M_sum_15 rfl rfl rfl ?_
  obtain ⟨v6, H7, z5, hF⟩ := bC_s hG; clear hG
  refine hp_callV_v (H1 := H7) (As := []) (rest := []) d_M_sum_16 (k_M_putsWorld z5) (ab_mkC s_M_putsWorld (Nat.le_of_ble_eq_true rfl) (Nat.le_of_ble_eq_true rfl) (Nat.le_refl 0) (Nat.le_refl 0)) (k13 28 rfl rfl) i_M_putsWorld v_M_putsWorld (by rw [(s_3).1]; exact q1) (by decide) rfl rfl (Nat.le_of_ble_eq_true rfl) ?_
  have s_4 : Sa H H7 := (s_3).tr (m_M_putsWorld z5)
  refine ab_aload_n d_M_sum_19 rfl rfl rfl ?_
  refine ab_iconst (v := 0) d_M_sum_20 (by decide) ?_
  refine hp_putI (v := 0) (f := 24) (ty := .boolean) d_M_sum_21 (by rw [(s_4).1]; exact q1) (by decide) rfl (by decide) (k10 17 rfl rfl) rfl rfl (fun _ => rfl) (fun _ => rfl) rfl ?_
  refine hp_gen (fun H8 eH8 => ?_)
  replace hF := bnd_s eH8 hF
  have s_5 : Sa H H8 := by rw [eH8]; exact s_4
  refine ab_aload_n d_M_sum_24 rfl rfl rfl ?_
  refine hp_getI (f := 23) d_M_sum_25 (by rw [(s_5).1]; exact q1) (by decide) rfl (by decide) (k10 16 rfl rfl) rfl ?_
  refine ab_topi (fun x9 ex9 => ?_)
  replace hF := bnd_s ex9 hF
  exact ab_iret d_M_sum_28 rfl (Nat.le_refl _) (Nat.le_refl _) (by have hr := Option.some.inj hF; subst hr; exact ⟨rfl, rfl⟩)
def y_M_save : ab_Y := (⟨"WorldEngineModel", "save", "()I"⟩, prog_14_method_46_code, 1, (some FieldType.int), [])
theorem d_M_save_0 : decode y_M_save.2.1 0 = .ok (.aload_n 0, 1) := by decide +kernel
theorem d_M_save_1 : decode y_M_save.2.1 1 = .ok (.iconst 0, 1) := by decide +kernel
theorem d_M_save_2 : decode y_M_save.2.1 2 = .ok (.putfield 83, 3) := by decide +kernel
theorem d_M_save_5 : decode y_M_save.2.1 5 = .ok (.aload_n 0, 1) := by decide +kernel
theorem d_M_save_6 : decode y_M_save.2.1 6 = .ok (.invokevirtual 148, 3) := by decide +kernel
theorem d_M_save_9 : decode y_M_save.2.1 9 = .ok (.ifCond .ne 6, 3) := by decide +kernel
theorem d_M_save_12 : decode y_M_save.2.1 12 = .ok (.bipush (-10), 2) := by decide +kernel
theorem d_M_save_14 : decode y_M_save.2.1 14 = .ok (.ireturn, 1) := by decide +kernel
theorem d_M_save_15 : decode y_M_save.2.1 15 = .ok (.aload_n 0, 1) := by decide +kernel
theorem d_M_save_16 : decode y_M_save.2.1 16 = .ok (.iconst 0, 1) := by decide +kernel
theorem d_M_save_17 : decode y_M_save.2.1 17 = .ok (.putfield 323, 3) := by decide +kernel
theorem d_M_save_20 : decode y_M_save.2.1 20 = .ok (.aload_n 0, 1) := by decide +kernel
theorem d_M_save_21 : decode y_M_save.2.1 21 = .ok (.invokevirtual 350, 3) := by decide +kernel
theorem d_M_save_24 : decode y_M_save.2.1 24 = .ok (.aload_n 0, 1) := by decide +kernel
theorem d_M_save_25 : decode y_M_save.2.1 25 = .ok (.getfield 323, 3) := by decide +kernel
theorem d_M_save_28 : decode y_M_save.2.1 28 = .ok (.ireturn, 1) := by decide +kernel
theorem s_M_save : ab_Stat y_M_save 0 := ⟨(k13 39 rfl rfl), (k1 19 rfl rfl), ⟨by decide, by decide⟩, by decide +kernel⟩
theorem i_M_save : Cond.instanceMethod y_M_save.1 ∈ ab_T := (k13 37 rfl rfl)
theorem v_M_save : Cond.selects "WorldEngineModel" y_M_save.1 y_M_save.1 ∈ ab_T := (k13 38 rfl rfl)
def F_M_save (N : Nat) (p0 : Nat) (H : Hp) : Option (Int32 × Hp) :=
    ck (H.sh[p0]? = some (12, 0)) <|
    bnd (H.sD p0 0 (0 : Int32)) fun H2 =>
    bC (F_M_isQuiet N p0 H2) fun v4 H5 =>
    if v4 = (0 : Int32) then
    some ((-10), H5)
    else
    bnd (H5.sD p0 22 (0 : Int32)) fun H7 =>
    bC (F_M_putsWorld N p0 H7) fun v9 H10 =>
    bnd ((H10.D p0 22)) fun x11 =>
    some (x11, H10)
set_option maxRecDepth 20000 in
set_option maxHeartbeats 2000000 in
theorem m_M_save {N : Nat} {p0 : Nat} {H : Hp} {r : Int32 × Hp} (hF : F_M_save N p0 H = some r) : Sa H r.2 := by
  unfold F_M_save at hF
  have hm := Sa.rf H
  obtain ⟨q12, hG⟩ := ck_s hF; clear hF
  obtain ⟨H13, eH13, hF⟩ := bnd_g hG; clear hG
  replace hm : Sa H H13 := by rw [eH13]; exact hm
  obtain ⟨v15, H16, z14, hG⟩ := bC_s hF; clear hF
  replace hm : Sa H H16 := hm.tr (m_M_isQuiet z14)
  rcases ite_s hG with ⟨q_7, hF⟩ | ⟨q_7, hF⟩
  · clear hG
    have hr := Option.some.inj hF; subst hr
    exact hm
  · clear hG
    obtain ⟨H18, eH18, hG⟩ := bnd_g hF; clear hF
    replace hm : Sa H H18 := by rw [eH18]; exact hm
    obtain ⟨v20, H21, z19, hF⟩ := bC_s hG; clear hG
    replace hm : Sa H H21 := hm.tr (m_M_putsWorld z19)
    obtain ⟨x22, -, hG⟩ := bnd_g hF; clear hF
    have hr := Option.some.inj hG; subst hr
    exact hm
set_option maxRecDepth 20000 in
set_option maxHeartbeats 2000000 in
theorem k_M_save {N : Nat} {p0 : Nat} {H : Hp} {r : Int32 × Hp} (hF : F_M_save N p0 H = some r) : ab_M y_M_save { frames := 2, cells := 0, slots := 0, locals := 47 } [.ref p0] (hpw H) (po (.returned (some (.int r.1))) r.2) := by
  unfold F_M_save at hF
  refine ab_of2 (lv := [some (.ref p0)]) 0 rfl rfl (Nat.le_of_ble_eq_true rfl) ?_
  refine ab_aload_n d_M_save_0 rfl rfl rfl ?_
  refine ab_iconst (v := 0) d_M_save_1 (by decide) ?_
  obtain ⟨q1, hG⟩ := ck_s hF; clear hF
  refine hp_putI (v := 0) (f := 0) d_M_save_2 q1 (by decide) rfl (by decide) (k9 233 rfl rfl) rfl rfl (fun _ => rfl) (fun _ => rfl) rfl ?_
  refine hp_gen (fun H2 eH2 => ?_)
  replace hG := bnd_s eH2 hG
  have s_1 : Sa H H2 := by rw [eH2]; exact Sa.rf _
  refine ab_aload_n d_M_save_5 rfl rfl rfl ?_
  obtain ⟨v4, H5, z3, hF⟩ := bC_s hG; clear hG
  refine hp_callV_a (v := .int v4) (H1 := H5) (As := []) (rest := []) d_M_save_6 (k_M_isQuiet z3) (ab_mkC s_M_isQuiet (Nat.le_of_ble_eq_true rfl) (Nat.le_of_ble_eq_true rfl) (Nat.le_refl 0) (Nat.le_refl 0)) (k11 166 rfl rfl) i_M_isQuiet v_M_isQuiet (by rw [(s_1).1]; exact q1) (by decide) rfl rfl (Nat.le_of_ble_eq_true rfl) ?_
  have s_2 : Sa H H5 := (s_1).tr (m_M_isQuiet z3)
  refine ab_if_ne (tgt := 15) d_M_save_9 (by decide) (fun q6 => ?_) (fun q6 => ?_)
  · rw [if_neg q6] at hF
    refine ab_aload_n d_M_save_15 rfl rfl rfl ?_
    refine ab_iconst (v := 0) d_M_save_16 (by decide) ?_
    refine hp_putI (v := 0) (f := 22) d_M_save_17 (by rw [(s_2).1]; exact q1) (by decide) rfl (by decide) (k10 15 rfl rfl) rfl rfl (fun _ => rfl) (fun _ => rfl) rfl ?_
    refine hp_gen (fun H7 eH7 => ?_)
    replace hF := bnd_s eH7 hF
    have s_3 : Sa H H7 := by rw [eH7]; exact s_2
    refine ab_aload_n d_M_save_20 rfl rfl rfl ?_
    obtain ⟨v9, H10, z8, hG⟩ := bC_s hF; clear hF
    refine hp_callV_v (H1 := H10) (As := []) (rest := []) d_M_save_21 (k_M_putsWorld z8) (ab_mkC s_M_putsWorld (Nat.le_of_ble_eq_true rfl) (Nat.le_of_ble_eq_true rfl) (Nat.le_refl 0) (Nat.le_refl 0)) (k13 28 rfl rfl) i_M_putsWorld v_M_putsWorld (by rw [(s_3).1]; exact q1) (by decide) rfl rfl (Nat.le_of_ble_eq_true rfl) ?_
    have s_4 : Sa H H10 := (s_3).tr (m_M_putsWorld z8)
    refine ab_aload_n d_M_save_24 rfl rfl rfl ?_
    refine hp_getI (f := 22) d_M_save_25 (by rw [(s_4).1]; exact q1) (by decide) rfl (by decide) (k10 15 rfl rfl) rfl ?_
    refine ab_topi (fun x11 ex11 => ?_)
    replace hG := bnd_s ex11 hG
    exact ab_iret d_M_save_28 rfl (Nat.le_refl _) (Nat.le_refl _) (by have hr := Option.some.inj hG; subst hr; exact ⟨rfl, rfl⟩)
  · rw [if_pos q6] at hF
    refine ab_bipush (v := (-10)) d_M_save_12 (by decide) ?_
    exact ab_iret d_M_save_14 rfl (Nat.le_refl _) (Nat.le_refl _) (by have hr := Option.some.inj hF; subst hr; exact ⟨rfl, rfl⟩)
