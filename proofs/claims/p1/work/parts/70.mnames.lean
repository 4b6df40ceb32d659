def y_MText_init : ab_Y := (⟨"WorldEngineModel$Text", "<init>", "()V"⟩, prog_16_method_1_code, 1, none, [])
theorem d_MText_init_0 : decode y_MText_init.2.1 0 = .ok (.aload_n 0, 1) := by decide +kernel
theorem d_MText_init_1 : decode y_MText_init.2.1 1 = .ok (.invokespecial 5, 3) := by decide +kernel
theorem d_MText_init_4 : decode y_MText_init.2.1 4 = .ok (.aload_n 0, 1) := by decide +kernel
theorem d_MText_init_5 : decode y_MText_init.2.1 5 = .ok (.sipush 6000, 3) := by decide +kernel
theorem d_MText_init_8 : decode y_MText_init.2.1 8 = .ok (.newarray .byte, 2) := by decide +kernel
theorem d_MText_init_10 : decode y_MText_init.2.1 10 = .ok (.putfield 11, 3) := by decide +kernel
theorem d_MText_init_13 : decode y_MText_init.2.1 13 = .ok (.aload_n 0, 1) := by decide +kernel
theorem d_MText_init_14 : decode y_MText_init.2.1 14 = .ok (.sipush 6002, 3) := by decide +kernel
theorem d_MText_init_17 : decode y_MText_init.2.1 17 = .ok (.newarray .int, 2) := by decide +kernel
theorem d_MText_init_19 : decode y_MText_init.2.1 19 = .ok (.putfield 15, 3) := by decide +kernel
theorem d_MText_init_22 : decode y_MText_init.2.1 22 = .ok (.aload_n 0, 1) := by decide +kernel
theorem d_MText_init_23 : decode y_MText_init.2.1 23 = .ok (.sipush 6002, 3) := by decide +kernel
theorem d_MText_init_26 : decode y_MText_init.2.1 26 = .ok (.newarray .int, 2) := by decide +kernel
theorem d_MText_init_28 : decode y_MText_init.2.1 28 = .ok (.putfield 19, 3) := by decide +kernel
theorem d_MText_init_31 : decode y_MText_init.2.1 31 = .ok (.aload_n 0, 1) := by decide +kernel
theorem d_MText_init_32 : decode y_MText_init.2.1 32 = .ok (.sipush 6002, 3) := by decide +kernel
theorem d_MText_init_35 : decode y_MText_init.2.1 35 = .ok (.newarray .int, 2) := by decide +kernel
theorem d_MText_init_37 : decode y_MText_init.2.1 37 = .ok (.putfield 22, 3) := by decide +kernel
theorem d_MText_init_40 : decode y_MText_init.2.1 40 = .ok (.aload_n 0, 1) := by decide +kernel
theorem d_MText_init_41 : decode y_MText_init.2.1 41 = .ok (.sipush 6002, 3) := by decide +kernel
theorem d_MText_init_44 : decode y_MText_init.2.1 44 = .ok (.newarray .int, 2) := by decide +kernel
theorem d_MText_init_46 : decode y_MText_init.2.1 46 = .ok (.putfield 25, 3) := by decide +kernel
theorem d_MText_init_49 : decode y_MText_init.2.1 49 = .ok (.aload_n 0, 1) := by decide +kernel
theorem d_MText_init_50 : decode y_MText_init.2.1 50 = .ok (.sipush 6002, 3) := by decide +kernel
theorem d_MText_init_53 : decode y_MText_init.2.1 53 = .ok (.newarray .boolean, 2) := by decide +kernel
theorem d_MText_init_55 : decode y_MText_init.2.1 55 = .ok (.putfield 28, 3) := by decide +kernel
theorem d_MText_init_58 : decode y_MText_init.2.1 58 = .ok (.aload_n 0, 1) := by decide +kernel
theorem d_MText_init_59 : decode y_MText_init.2.1 59 = .ok (.sipush 6002, 3) := by decide +kernel
theorem d_MText_init_62 : decode y_MText_init.2.1 62 = .ok (.newarray .int, 2) := by decide +kernel
theorem d_MText_init_64 : decode y_MText_init.2.1 64 = .ok (.putfield 32, 3) := by decide +kernel
theorem d_MText_init_67 : decode y_MText_init.2.1 67 = .ok (.aload_n 0, 1) := by decide +kernel
theorem d_MText_init_68 : decode y_MText_init.2.1 68 = .ok (.bipush 56, 2) := by decide +kernel
theorem d_MText_init_70 : decode y_MText_init.2.1 70 = .ok (.newarray .int, 2) := by decide +kernel
theorem d_MText_init_72 : decode y_MText_init.2.1 72 = .ok (.putfield 35, 3) := by decide +kernel
theorem d_MText_init_75 : decode y_MText_init.2.1 75 = .ok (.aload_n 0, 1) := by decide +kernel
theorem d_MText_init_76 : decode y_MText_init.2.1 76 = .ok (.bipush 56, 2) := by decide +kernel
theorem d_MText_init_78 : decode y_MText_init.2.1 78 = .ok (.newarray .int, 2) := by decide +kernel
theorem d_MText_init_80 : decode y_MText_init.2.1 80 = .ok (.putfield 38, 3) := by decide +kernel
theorem d_MText_init_83 : decode y_MText_init.2.1 83 = .ok (.aload_n 0, 1) := by decide +kernel
theorem d_MText_init_84 : decode y_MText_init.2.1 84 = .ok (.bipush 56, 2) := by decide +kernel
theorem d_MText_init_86 : decode y_MText_init.2.1 86 = .ok (.newarray .int, 2) := by decide +kernel
theorem d_MText_init_88 : decode y_MText_init.2.1 88 = .ok (.putfield 41, 3) := by decide +kernel
theorem d_MText_init_91 : decode y_MText_init.2.1 91 = .ok (.aload_n 0, 1) := by decide +kernel
theorem d_MText_init_92 : decode y_MText_init.2.1 92 = .ok (.bipush 16, 2) := by decide +kernel
theorem d_MText_init_94 : decode y_MText_init.2.1 94 = .ok (.newarray .int, 2) := by decide +kernel
theorem d_MText_init_96 : decode y_MText_init.2.1 96 = .ok (.putfield 44, 3) := by decide +kernel
theorem d_MText_init_99 : decode y_MText_init.2.1 99 = .ok (.aload_n 0, 1) := by decide +kernel
theorem d_MText_init_100 : decode y_MText_init.2.1 100 = .ok (.bipush 17, 2) := by decide +kernel
theorem d_MText_init_102 : decode y_MText_init.2.1 102 = .ok (.newarray .int, 2) := by decide +kernel
theorem d_MText_init_104 : decode y_MText_init.2.1 104 = .ok (.putfield 47, 3) := by decide +kernel
theorem d_MText_init_107 : decode y_MText_init.2.1 107 = .ok (.aload_n 0, 1) := by decide +kernel
theorem d_MText_init_108 : decode y_MText_init.2.1 108 = .ok (.bipush 48, 2) := by decide +kernel
theorem d_MText_init_110 : decode y_MText_init.2.1 110 = .ok (.newarray .int, 2) := by decide +kernel
theorem d_MText_init_112 : decode y_MText_init.2.1 112 = .ok (.putfield 50, 3) := by decide +kernel
theorem d_MText_init_115 : decode y_MText_init.2.1 115 = .ok (.aload_n 0, 1) := by decide +kernel
theorem d_MText_init_116 : decode y_MText_init.2.1 116 = .ok (.bipush 48, 2) := by decide +kernel
theorem d_MText_init_118 : decode y_MText_init.2.1 118 = .ok (.newarray .int, 2) := by decide +kernel
theorem d_MText_init_120 : decode y_MText_init.2.1 120 = .ok (.putfield 53, 3) := by decide +kernel
theorem d_MText_init_123 : decode y_MText_init.2.1 123 = .ok (.aload_n 0, 1) := by decide +kernel
theorem d_MText_init_124 : decode y_MText_init.2.1 124 = .ok (.bipush 8, 2) := by decide +kernel
theorem d_MText_init_126 : decode y_MText_init.2.1 126 = .ok (.newarray .int, 2) := by decide +kernel
theorem d_MText_init_128 : decode y_MText_init.2.1 128 = .ok (.putfield 56, 3) := by decide +kernel
theorem d_MText_init_131 : decode y_MText_init.2.1 131 = .ok (.aload_n 0, 1) := by decide +kernel
theorem d_MText_init_132 : decode y_MText_init.2.1 132 = .ok (.bipush 8, 2) := by decide +kernel
theorem d_MText_init_134 : decode y_MText_init.2.1 134 = .ok (.newarray .int, 2) := by decide +kernel
theorem d_MText_init_136 : decode y_MText_init.2.1 136 = .ok (.putfield 59, 3) := by decide +kernel
theorem d_MText_init_139 : decode y_MText_init.2.1 139 = .ok (.aload_n 0, 1) := by decide +kernel
theorem d_MText_init_140 : decode y_MText_init.2.1 140 = .ok (.bipush 32, 2) := by decide +kernel
theorem d_MText_init_142 : decode y_MText_init.2.1 142 = .ok (.newarray .int, 2) := by decide +kernel
theorem d_MText_init_144 : decode y_MText_init.2.1 144 = .ok (.putfield 62, 3) := by decide +kernel
theorem d_MText_init_147 : decode y_MText_init.2.1 147 = .ok (.aload_n 0, 1) := by decide +kernel
theorem d_MText_init_148 : decode y_MText_init.2.1 148 = .ok (.bipush 32, 2) := by decide +kernel
theorem d_MText_init_150 : decode y_MText_init.2.1 150 = .ok (.newarray .int, 2) := by decide +kernel
theorem d_MText_init_152 : decode y_MText_init.2.1 152 = .ok (.putfield 65, 3) := by decide +kernel
theorem d_MText_init_155 : decode y_MText_init.2.1 155 = .ok (.aload_n 0, 1) := by decide +kernel
theorem d_MText_init_156 : decode y_MText_init.2.1 156 = .ok (.bipush 16, 2) := by decide +kernel
theorem d_MText_init_158 : decode y_MText_init.2.1 158 = .ok (.newarray .int, 2) := by decide +kernel
theorem d_MText_init_160 : decode y_MText_init.2.1 160 = .ok (.putfield 68, 3) := by decide +kernel
theorem d_MText_init_163 : decode y_MText_init.2.1 163 = .ok (.aload_n 0, 1) := by decide +kernel
theorem d_MText_init_164 : decode y_MText_init.2.1 164 = .ok (.sipush 768, 3) := by decide +kernel
theorem d_MText_init_167 : decode y_MText_init.2.1 167 = .ok (.newarray .int, 2) := by decide +kernel
theorem d_MText_init_169 : decode y_MText_init.2.1 169 = .ok (.putfield 71, 3) := by decide +kernel
theorem d_MText_init_172 : decode y_MText_init.2.1 172 = .ok (.aload_n 0, 1) := by decide +kernel
theorem d_MText_init_173 : decode y_MText_init.2.1 173 = .ok (.bipush 16, 2) := by decide +kernel
theorem d_MText_init_175 : decode y_MText_init.2.1 175 = .ok (.newarray .int, 2) := by decide +kernel
theorem d_MText_init_177 : decode y_MText_init.2.1 177 = .ok (.putfield 74, 3) := by decide +kernel
theorem d_MText_init_180 : decode y_MText_init.2.1 180 = .ok (.aload_n 0, 1) := by decide +kernel
theorem d_MText_init_181 : decode y_MText_init.2.1 181 = .ok (.bipush 16, 2) := by decide +kernel
theorem d_MText_init_183 : decode y_MText_init.2.1 183 = .ok (.newarray .int, 2) := by decide +kernel
theorem d_MText_init_185 : decode y_MText_init.2.1 185 = .ok (.putfield 77, 3) := by decide +kernel
theorem d_MText_init_188 : decode y_MText_init.2.1 188 = .ok (.aload_n 0, 1) := by decide +kernel
theorem d_MText_init_189 : decode y_MText_init.2.1 189 = .ok (.bipush 16, 2) := by decide +kernel
theorem d_MText_init_191 : decode y_MText_init.2.1 191 = .ok (.newarray .int, 2) := by decide +kernel
theorem d_MText_init_193 : decode y_MText_init.2.1 193 = .ok (.putfield 80, 3) := by decide +kernel
theorem d_MText_init_196 : decode y_MText_init.2.1 196 = .ok (.aload_n 0, 1) := by decide +kernel
theorem d_MText_init_197 : decode y_MText_init.2.1 197 = .ok (.bipush 16, 2) := by decide +kernel
theorem d_MText_init_199 : decode y_MText_init.2.1 199 = .ok (.newarray .int, 2) := by decide +kernel
theorem d_MText_init_201 : decode y_MText_init.2.1 201 = .ok (.putfield 83, 3) := by decide +kernel
theorem d_MText_init_204 : decode y_MText_init.2.1 204 = .ok (.aload_n 0, 1) := by decide +kernel
theorem d_MText_init_205 : decode y_MText_init.2.1 205 = .ok (.bipush 16, 2) := by decide +kernel
theorem d_MText_init_207 : decode y_MText_init.2.1 207 = .ok (.newarray .int, 2) := by decide +kernel
theorem d_MText_init_209 : decode y_MText_init.2.1 209 = .ok (.putfield 86, 3) := by decide +kernel
theorem d_MText_init_212 : decode y_MText_init.2.1 212 = .ok (.aload_n 0, 1) := by decide +kernel
theorem d_MText_init_213 : decode y_MText_init.2.1 213 = .ok (.bipush 16, 2) := by decide +kernel
theorem d_MText_init_215 : decode y_MText_init.2.1 215 = .ok (.newarray .int, 2) := by decide +kernel
theorem d_MText_init_217 : decode y_MText_init.2.1 217 = .ok (.putfield 89, 3) := by decide +kernel
theorem d_MText_init_220 : decode y_MText_init.2.1 220 = .ok (.aload_n 0, 1) := by decide +kernel
theorem d_MText_init_221 : decode y_MText_init.2.1 221 = .ok (.bipush 16, 2) := by decide +kernel
theorem d_MText_init_223 : decode y_MText_init.2.1 223 = .ok (.newarray .int, 2) := by decide +kernel
theorem d_MText_init_225 : decode y_MText_init.2.1 225 = .ok (.putfield 92, 3) := by decide +kernel
theorem d_MText_init_228 : decode y_MText_init.2.1 228 = .ok (.aload_n 0, 1) := by decide +kernel
theorem d_MText_init_229 : decode y_MText_init.2.1 229 = .ok (.bipush 12, 2) := by decide +kernel
theorem d_MText_init_231 : decode y_MText_init.2.1 231 = .ok (.newarray .int, 2) := by decide +kernel
theorem d_MText_init_233 : decode y_MText_init.2.1 233 = .ok (.putfield 95, 3) := by decide +kernel
theorem d_MText_init_236 : decode y_MText_init.2.1 236 = .ok (.aload_n 0, 1) := by decide +kernel
theorem d_MText_init_237 : decode y_MText_init.2.1 237 = .ok (.bipush 12, 2) := by decide +kernel
theorem d_MText_init_239 : decode y_MText_init.2.1 239 = .ok (.newarray .int, 2) := by decide +kernel
theorem d_MText_init_241 : decode y_MText_init.2.1 241 = .ok (.putfield 98, 3) := by decide +kernel
theorem d_MText_init_244 : decode y_MText_init.2.1 244 = .ok (.aload_n 0, 1) := by decide +kernel
theorem d_MText_init_245 : decode y_MText_init.2.1 245 = .ok (.bipush 12, 2) := by decide +kernel
theorem d_MText_init_247 : decode y_MText_init.2.1 247 = .ok (.newarray .boolean, 2) := by decide +kernel
theorem d_MText_init_249 : decode y_MText_init.2.1 249 = .ok (.putfield 101, 3) := by decide +kernel
theorem d_MText_init_252 : decode y_MText_init.2.1 252 = .ok (.return_, 1) := by decide +kernel
def y_MWorld_init : ab_Y := (⟨"WorldEngineModel$World", "<init>", "()V"⟩, prog_17_method_1_code, 1, none, [])
theorem d_MWorld_init_0 : decode y_MWorld_init.2.1 0 = .ok (.aload_n 0, 1) := by decide +kernel
theorem d_MWorld_init_1 : decode y_MWorld_init.2.1 1 = .ok (.invokespecial 3, 3) := by decide +kernel
theorem d_MWorld_init_4 : decode y_MWorld_init.2.1 4 = .ok (.aload_n 0, 1) := by decide +kernel
theorem d_MWorld_init_5 : decode y_MWorld_init.2.1 5 = .ok (.sipush 256, 3) := by decide +kernel
theorem d_MWorld_init_8 : decode y_MWorld_init.2.1 8 = .ok (.newarray .int, 2) := by decide +kernel
theorem d_MWorld_init_10 : decode y_MWorld_init.2.1 10 = .ok (.putfield 9, 3) := by decide +kernel
theorem d_MWorld_init_13 : decode y_MWorld_init.2.1 13 = .ok (.aload_n 0, 1) := by decide +kernel
theorem d_MWorld_init_14 : decode y_MWorld_init.2.1 14 = .ok (.sipush 256, 3) := by decide +kernel
theorem d_MWorld_init_17 : decode y_MWorld_init.2.1 17 = .ok (.newarray .boolean, 2) := by decide +kernel
theorem d_MWorld_init_19 : decode y_MWorld_init.2.1 19 = .ok (.putfield 15, 3) := by decide +kernel
theorem d_MWorld_init_22 : decode y_MWorld_init.2.1 22 = .ok (.aload_n 0, 1) := by decide +kernel
theorem d_MWorld_init_23 : decode y_MWorld_init.2.1 23 = .ok (.sipush 256, 3) := by decide +kernel
theorem d_MWorld_init_26 : decode y_MWorld_init.2.1 26 = .ok (.newarray .int, 2) := by decide +kernel
theorem d_MWorld_init_28 : decode y_MWorld_init.2.1 28 = .ok (.putfield 19, 3) := by decide +kernel
theorem d_MWorld_init_31 : decode y_MWorld_init.2.1 31 = .ok (.aload_n 0, 1) := by decide +kernel
theorem d_MWorld_init_32 : decode y_MWorld_init.2.1 32 = .ok (.sipush 12288, 3) := by decide +kernel
theorem d_MWorld_init_35 : decode y_MWorld_init.2.1 35 = .ok (.newarray .int, 2) := by decide +kernel
theorem d_MWorld_init_37 : decode y_MWorld_init.2.1 37 = .ok (.putfield 22, 3) := by decide +kernel
theorem d_MWorld_init_40 : decode y_MWorld_init.2.1 40 = .ok (.aload_n 0, 1) := by decide +kernel
theorem d_MWorld_init_41 : decode y_MWorld_init.2.1 41 = .ok (.sipush 256, 3) := by decide +kernel
theorem d_MWorld_init_44 : decode y_MWorld_init.2.1 44 = .ok (.newarray .int, 2) := by decide +kernel
theorem d_MWorld_init_46 : decode y_MWorld_init.2.1 46 = .ok (.putfield 25, 3) := by decide +kernel
theorem d_MWorld_init_49 : decode y_MWorld_init.2.1 49 = .ok (.aload_n 0, 1) := by decide +kernel
theorem d_MWorld_init_50 : decode y_MWorld_init.2.1 50 = .ok (.sipush 256, 3) := by decide +kernel
theorem d_MWorld_init_53 : decode y_MWorld_init.2.1 53 = .ok (.newarray .int, 2) := by decide +kernel
theorem d_MWorld_init_55 : decode y_MWorld_init.2.1 55 = .ok (.putfield 28, 3) := by decide +kernel
theorem d_MWorld_init_58 : decode y_MWorld_init.2.1 58 = .ok (.aload_n 0, 1) := by decide +kernel
theorem d_MWorld_init_59 : decode y_MWorld_init.2.1 59 = .ok (.sipush 256, 3) := by decide +kernel
theorem d_MWorld_init_62 : decode y_MWorld_init.2.1 62 = .ok (.newarray .int, 2) := by decide +kernel
theorem d_MWorld_init_64 : decode y_MWorld_init.2.1 64 = .ok (.putfield 31, 3) := by decide +kernel
theorem d_MWorld_init_67 : decode y_MWorld_init.2.1 67 = .ok (.aload_n 0, 1) := by decide +kernel
theorem d_MWorld_init_68 : decode y_MWorld_init.2.1 68 = .ok (.sipush 1024, 3) := by decide +kernel
theorem d_MWorld_init_71 : decode y_MWorld_init.2.1 71 = .ok (.newarray .int, 2) := by decide +kernel
theorem d_MWorld_init_73 : decode y_MWorld_init.2.1 73 = .ok (.putfield 34, 3) := by decide +kernel
theorem d_MWorld_init_76 : decode y_MWorld_init.2.1 76 = .ok (.aload_n 0, 1) := by decide +kernel
theorem d_MWorld_init_77 : decode y_MWorld_init.2.1 77 = .ok (.bipush 32, 2) := by decide +kernel
theorem d_MWorld_init_79 : decode y_MWorld_init.2.1 79 = .ok (.newarray .int, 2) := by decide +kernel
theorem d_MWorld_init_81 : decode y_MWorld_init.2.1 81 = .ok (.putfield 37, 3) := by decide +kernel
theorem d_MWorld_init_84 : decode y_MWorld_init.2.1 84 = .ok (.aload_n 0, 1) := by decide +kernel
theorem d_MWorld_init_85 : decode y_MWorld_init.2.1 85 = .ok (.invokevirtual 40, 3) := by decide +kernel
theorem d_MWorld_init_88 : decode y_MWorld_init.2.1 88 = .ok (.return_, 1) := by decide +kernel
def y_MWorld_begin : ab_Y := (⟨"WorldEngineModel$World", "begin", "()V"⟩, prog_17_method_2_code, 2, none, [])
theorem d_MWorld_begin_0 : decode y_MWorld_begin.2.1 0 = .ok (.aload_n 0, 1) := by decide +kernel
theorem d_MWorld_begin_1 : decode y_MWorld_begin.2.1 1 = .ok (.iconst 0, 1) := by decide +kernel
theorem d_MWorld_begin_2 : decode y_MWorld_begin.2.1 2 = .ok (.putfield 43, 3) := by decide +kernel
theorem d_MWorld_begin_5 : decode y_MWorld_begin.2.1 5 = .ok (.aload_n 0, 1) := by decide +kernel
theorem d_MWorld_begin_6 : decode y_MWorld_begin.2.1 6 = .ok (.iconst 0, 1) := by decide +kernel
theorem d_MWorld_begin_7 : decode y_MWorld_begin.2.1 7 = .ok (.putfield 47, 3) := by decide +kernel
theorem d_MWorld_begin_10 : decode y_MWorld_begin.2.1 10 = .ok (.aload_n 0, 1) := by decide +kernel
theorem d_MWorld_begin_11 : decode y_MWorld_begin.2.1 11 = .ok (.iconst 0, 1) := by decide +kernel
theorem d_MWorld_begin_12 : decode y_MWorld_begin.2.1 12 = .ok (.putfield 50, 3) := by decide +kernel
theorem d_MWorld_begin_15 : decode y_MWorld_begin.2.1 15 = .ok (.aload_n 0, 1) := by decide +kernel
theorem d_MWorld_begin_16 : decode y_MWorld_begin.2.1 16 = .ok (.iconst 0, 1) := by decide +kernel
theorem d_MWorld_begin_17 : decode y_MWorld_begin.2.1 17 = .ok (.putfield 53, 3) := by decide +kernel
theorem d_MWorld_begin_20 : decode y_MWorld_begin.2.1 20 = .ok (.aload_n 0, 1) := by decide +kernel
theorem d_MWorld_begin_21 : decode y_MWorld_begin.2.1 21 = .ok (.iconst 0, 1) := by decide +kernel
theorem d_MWorld_begin_22 : decode y_MWorld_begin.2.1 22 = .ok (.putfield 56, 3) := by decide +kernel
theorem d_MWorld_begin_25 : decode y_MWorld_begin.2.1 25 = .ok (.aload_n 0, 1) := by decide +kernel
theorem d_MWorld_begin_26 : decode y_MWorld_begin.2.1 26 = .ok (.iconst (-1), 1) := by decide +kernel
theorem d_MWorld_begin_27 : decode y_MWorld_begin.2.1 27 = .ok (.putfield 59, 3) := by decide +kernel
theorem d_MWorld_begin_30 : decode y_MWorld_begin.2.1 30 = .ok (.aload_n 0, 1) := by decide +kernel
theorem d_MWorld_begin_31 : decode y_MWorld_begin.2.1 31 = .ok (.iconst 0, 1) := by decide +kernel
theorem d_MWorld_begin_32 : decode y_MWorld_begin.2.1 32 = .ok (.putfield 62, 3) := by decide +kernel
theorem d_MWorld_begin_35 : decode y_MWorld_begin.2.1 35 = .ok (.iconst 0, 1) := by decide +kernel
theorem d_MWorld_begin_36 : decode y_MWorld_begin.2.1 36 = .ok (.istore_n 1, 1) := by decide +kernel
theorem d_MWorld_begin_37 : decode y_MWorld_begin.2.1 37 = .ok (.iload_n 1, 1) := by decide +kernel
theorem d_MWorld_begin_38 : decode y_MWorld_begin.2.1 38 = .ok (.sipush 256, 3) := by decide +kernel
theorem d_MWorld_begin_41 : decode y_MWorld_begin.2.1 41 = .ok (.if_icmp .ge 30, 3) := by decide +kernel
theorem d_MWorld_begin_44 : decode y_MWorld_begin.2.1 44 = .ok (.aload_n 0, 1) := by decide +kernel
theorem d_MWorld_begin_45 : decode y_MWorld_begin.2.1 45 = .ok (.getfield 9, 3) := by decide +kernel
theorem d_MWorld_begin_48 : decode y_MWorld_begin.2.1 48 = .ok (.iload_n 1, 1) := by decide +kernel
theorem d_MWorld_begin_49 : decode y_MWorld_begin.2.1 49 = .ok (.iconst 0, 1) := by decide +kernel
theorem d_MWorld_begin_50 : decode y_MWorld_begin.2.1 50 = .ok (.iastore, 1) := by decide +kernel
theorem d_MWorld_begin_51 : decode y_MWorld_begin.2.1 51 = .ok (.aload_n 0, 1) := by decide +kernel
theorem d_MWorld_begin_52 : decode y_MWorld_begin.2.1 52 = .ok (.getfield 15, 3) := by decide +kernel
theorem d_MWorld_begin_55 : decode y_MWorld_begin.2.1 55 = .ok (.iload_n 1, 1) := by decide +kernel
theorem d_MWorld_begin_56 : decode y_MWorld_begin.2.1 56 = .ok (.iconst 0, 1) := by decide +kernel
theorem d_MWorld_begin_57 : decode y_MWorld_begin.2.1 57 = .ok (.bastore, 1) := by decide +kernel
theorem d_MWorld_begin_58 : decode y_MWorld_begin.2.1 58 = .ok (.aload_n 0, 1) := by decide +kernel
theorem d_MWorld_begin_59 : decode y_MWorld_begin.2.1 59 = .ok (.getfield 19, 3) := by decide +kernel
theorem d_MWorld_begin_62 : decode y_MWorld_begin.2.1 62 = .ok (.iload_n 1, 1) := by decide +kernel
theorem d_MWorld_begin_63 : decode y_MWorld_begin.2.1 63 = .ok (.iconst 0, 1) := by decide +kernel
theorem d_MWorld_begin_64 : decode y_MWorld_begin.2.1 64 = .ok (.iastore, 1) := by decide +kernel
theorem d_MWorld_begin_65 : decode y_MWorld_begin.2.1 65 = .ok (.iinc 1 1, 3) := by decide +kernel
theorem d_MWorld_begin_68 : decode y_MWorld_begin.2.1 68 = .ok (.goto (-31), 3) := by decide +kernel
theorem d_MWorld_begin_71 : decode y_MWorld_begin.2.1 71 = .ok (.return_, 1) := by decide +kernel
def y_MRunner_init : ab_Y := (⟨"WorldEngineModel$Runner", "<init>", "()V"⟩, prog_15_method_1_code, 1, none, [])
theorem d_MRunner_init_0 : decode y_MRunner_init.2.1 0 = .ok (.aload_n 0, 1) := by decide +kernel
theorem d_MRunner_init_1 : decode y_MRunner_init.2.1 1 = .ok (.invokespecial 3, 3) := by decide +kernel
theorem d_MRunner_init_4 : decode y_MRunner_init.2.1 4 = .ok (.aload_n 0, 1) := by decide +kernel
theorem d_MRunner_init_5 : decode y_MRunner_init.2.1 5 = .ok (.ldc 11, 2) := by decide +kernel
theorem d_MRunner_init_7 : decode y_MRunner_init.2.1 7 = .ok (.newarray .int, 2) := by decide +kernel
theorem d_MRunner_init_9 : decode y_MRunner_init.2.1 9 = .ok (.putfield 12, 3) := by decide +kernel
theorem d_MRunner_init_12 : decode y_MRunner_init.2.1 12 = .ok (.aload_n 0, 1) := by decide +kernel
theorem d_MRunner_init_13 : decode y_MRunner_init.2.1 13 = .ok (.bipush 48, 2) := by decide +kernel
theorem d_MRunner_init_15 : decode y_MRunner_init.2.1 15 = .ok (.newarray .int, 2) := by decide +kernel
theorem d_MRunner_init_17 : decode y_MRunner_init.2.1 17 = .ok (.putfield 16, 3) := by decide +kernel
theorem d_MRunner_init_20 : decode y_MRunner_init.2.1 20 = .ok (.aload_n 0, 1) := by decide +kernel
theorem d_MRunner_init_21 : decode y_MRunner_init.2.1 21 = .ok (.bipush 12, 2) := by decide +kernel
theorem d_MRunner_init_23 : decode y_MRunner_init.2.1 23 = .ok (.newarray .int, 2) := by decide +kernel
theorem d_MRunner_init_25 : decode y_MRunner_init.2.1 25 = .ok (.putfield 19, 3) := by decide +kernel
theorem d_MRunner_init_28 : decode y_MRunner_init.2.1 28 = .ok (.aload_n 0, 1) := by decide +kernel
theorem d_MRunner_init_29 : decode y_MRunner_init.2.1 29 = .ok (.bipush 8, 2) := by decide +kernel
theorem d_MRunner_init_31 : decode y_MRunner_init.2.1 31 = .ok (.newarray .int, 2) := by decide +kernel
theorem d_MRunner_init_33 : decode y_MRunner_init.2.1 33 = .ok (.putfield 22, 3) := by decide +kernel
theorem d_MRunner_init_36 : decode y_MRunner_init.2.1 36 = .ok (.return_, 1) := by decide +kernel
def y_M_init : ab_Y := (⟨"WorldEngineModel", "<init>", "(I)V"⟩, prog_14_method_1_code, 4, none, [])
theorem d_M_init_0 : decode y_M_init.2.1 0 = .ok (.aload_n 0, 1) := by decide +kernel
theorem d_M_init_1 : decode y_M_init.2.1 1 = .ok (.invokespecial 1, 3) := by decide +kernel
theorem d_M_init_4 : decode y_M_init.2.1 4 = .ok (.aload_n 0, 1) := by decide +kernel
theorem d_M_init_5 : decode y_M_init.2.1 5 = .ok (.sipush 6000, 3) := by decide +kernel
theorem d_M_init_8 : decode y_M_init.2.1 8 = .ok (.newarray .byte, 2) := by decide +kernel
theorem d_M_init_10 : decode y_M_init.2.1 10 = .ok (.putfield 9, 3) := by decide +kernel
theorem d_M_init_13 : decode y_M_init.2.1 13 = .ok (.aload_n 0, 1) := by decide +kernel
theorem d_M_init_14 : decode y_M_init.2.1 14 = .ok (.new 13, 3) := by decide +kernel
theorem d_M_init_17 : decode y_M_init.2.1 17 = .ok (.dup, 1) := by decide +kernel
theorem d_M_init_18 : decode y_M_init.2.1 18 = .ok (.invokespecial 15, 3) := by decide +kernel
theorem d_M_init_21 : decode y_M_init.2.1 21 = .ok (.putfield 16, 3) := by decide +kernel
theorem d_M_init_24 : decode y_M_init.2.1 24 = .ok (.aload_n 0, 1) := by decide +kernel
theorem d_M_init_25 : decode y_M_init.2.1 25 = .ok (.new 13, 3) := by decide +kernel
theorem d_M_init_28 : decode y_M_init.2.1 28 = .ok (.dup, 1) := by decide +kernel
theorem d_M_init_29 : decode y_M_init.2.1 29 = .ok (.invokespecial 15, 3) := by decide +kernel
theorem d_M_init_32 : decode y_M_init.2.1 32 = .ok (.putfield 20, 3) := by decide +kernel
theorem d_M_init_35 : decode y_M_init.2.1 35 = .ok (.aload_n 0, 1) := by decide +kernel
theorem d_M_init_36 : decode y_M_init.2.1 36 = .ok (.iconst (-1), 1) := by decide +kernel
theorem d_M_init_37 : decode y_M_init.2.1 37 = .ok (.putfield 23, 3) := by decide +kernel
theorem d_M_init_40 : decode y_M_init.2.1 40 = .ok (.aload_n 0, 1) := by decide +kernel
theorem d_M_init_41 : decode y_M_init.2.1 41 = .ok (.iconst (-1), 1) := by decide +kernel
theorem d_M_init_42 : decode y_M_init.2.1 42 = .ok (.putfield 27, 3) := by decide +kernel
theorem d_M_init_45 : decode y_M_init.2.1 45 = .ok (.aload_n 0, 1) := by decide +kernel
theorem d_M_init_46 : decode y_M_init.2.1 46 = .ok (.new 30, 3) := by decide +kernel
theorem d_M_init_49 : decode y_M_init.2.1 49 = .ok (.dup, 1) := by decide +kernel
theorem d_M_init_50 : decode y_M_init.2.1 50 = .ok (.invokespecial 32, 3) := by decide +kernel
theorem d_M_init_53 : decode y_M_init.2.1 53 = .ok (.putfield 33, 3) := by decide +kernel
theorem d_M_init_56 : decode y_M_init.2.1 56 = .ok (.aload_n 0, 1) := by decide +kernel
theorem d_M_init_57 : decode y_M_init.2.1 57 = .ok (.new 30, 3) := by decide +kernel
theorem d_M_init_60 : decode y_M_init.2.1 60 = .ok (.dup, 1) := by decide +kernel
theorem d_M_init_61 : decode y_M_init.2.1 61 = .ok (.invokespecial 32, 3) := by decide +kernel
theorem d_M_init_64 : decode y_M_init.2.1 64 = .ok (.putfield 37, 3) := by decide +kernel
theorem d_M_init_67 : decode y_M_init.2.1 67 = .ok (.aload_n 0, 1) := by decide +kernel
theorem d_M_init_68 : decode y_M_init.2.1 68 = .ok (.new 30, 3) := by decide +kernel
theorem d_M_init_71 : decode y_M_init.2.1 71 = .ok (.dup, 1) := by decide +kernel
theorem d_M_init_72 : decode y_M_init.2.1 72 = .ok (.invokespecial 32, 3) := by decide +kernel
theorem d_M_init_75 : decode y_M_init.2.1 75 = .ok (.putfield 40, 3) := by decide +kernel
theorem d_M_init_78 : decode y_M_init.2.1 78 = .ok (.aload_n 0, 1) := by decide +kernel
theorem d_M_init_79 : decode y_M_init.2.1 79 = .ok (.new 43, 3) := by decide +kernel
theorem d_M_init_82 : decode y_M_init.2.1 82 = .ok (.dup, 1) := by decide +kernel
theorem d_M_init_83 : decode y_M_init.2.1 83 = .ok (.invokespecial 45, 3) := by decide +kernel
theorem d_M_init_86 : decode y_M_init.2.1 86 = .ok (.putfield 46, 3) := by decide +kernel
theorem d_M_init_89 : decode y_M_init.2.1 89 = .ok (.aload_n 0, 1) := by decide +kernel
theorem d_M_init_90 : decode y_M_init.2.1 90 = .ok (.iconst 1, 1) := by decide +kernel
theorem d_M_init_91 : decode y_M_init.2.1 91 = .ok (.putfield 50, 3) := by decide +kernel
theorem d_M_init_94 : decode y_M_init.2.1 94 = .ok (.aload_n 0, 1) := by decide +kernel
theorem d_M_init_95 : decode y_M_init.2.1 95 = .ok (.sipush 256, 3) := by decide +kernel
theorem d_M_init_98 : decode y_M_init.2.1 98 = .ok (.newarray .int, 2) := by decide +kernel
theorem d_M_init_100 : decode y_M_init.2.1 100 = .ok (.putfield 53, 3) := by decide +kernel
theorem d_M_init_103 : decode y_M_init.2.1 103 = .ok (.aload_n 0, 1) := by decide +kernel
theorem d_M_init_104 : decode y_M_init.2.1 104 = .ok (.sipush 256, 3) := by decide +kernel
theorem d_M_init_107 : decode y_M_init.2.1 107 = .ok (.newarray .boolean, 2) := by decide +kernel
theorem d_M_init_109 : decode y_M_init.2.1 109 = .ok (.putfield 57, 3) := by decide +kernel
theorem d_M_init_112 : decode y_M_init.2.1 112 = .ok (.aload_n 0, 1) := by decide +kernel
theorem d_M_init_113 : decode y_M_init.2.1 113 = .ok (.bipush 64, 2) := by decide +kernel
theorem d_M_init_115 : decode y_M_init.2.1 115 = .ok (.newarray .int, 2) := by decide +kernel
theorem d_M_init_117 : decode y_M_init.2.1 117 = .ok (.putfield 61, 3) := by decide +kernel
theorem d_M_init_120 : decode y_M_init.2.1 120 = .ok (.aload_n 0, 1) := by decide +kernel
theorem d_M_init_121 : decode y_M_init.2.1 121 = .ok (.iconst 4, 1) := by decide +kernel
theorem d_M_init_122 : decode y_M_init.2.1 122 = .ok (.newarray .int, 2) := by decide +kernel
theorem d_M_init_124 : decode y_M_init.2.1 124 = .ok (.putfield 64, 3) := by decide +kernel
theorem d_M_init_127 : decode y_M_init.2.1 127 = .ok (.aload_n 0, 1) := by decide +kernel
theorem d_M_init_128 : decode y_M_init.2.1 128 = .ok (.iconst 4, 1) := by decide +kernel
theorem d_M_init_129 : decode y_M_init.2.1 129 = .ok (.newarray .int, 2) := by decide +kernel
theorem d_M_init_131 : decode y_M_init.2.1 131 = .ok (.putfield 67, 3) := by decide +kernel
theorem d_M_init_134 : decode y_M_init.2.1 134 = .ok (.aload_n 0, 1) := by decide +kernel
theorem d_M_init_135 : decode y_M_init.2.1 135 = .ok (.sipush 256, 3) := by decide +kernel
theorem d_M_init_138 : decode y_M_init.2.1 138 = .ok (.newarray .int, 2) := by decide +kernel
theorem d_M_init_140 : decode y_M_init.2.1 140 = .ok (.putfield 70, 3) := by decide +kernel
theorem d_M_init_143 : decode y_M_init.2.1 143 = .ok (.aload_n 0, 1) := by decide +kernel
theorem d_M_init_144 : decode y_M_init.2.1 144 = .ok (.ldc 73, 2) := by decide +kernel
theorem d_M_init_146 : decode y_M_init.2.1 146 = .ok (.newarray .byte, 2) := by decide +kernel
theorem d_M_init_148 : decode y_M_init.2.1 148 = .ok (.putfield 74, 3) := by decide +kernel
theorem d_M_init_151 : decode y_M_init.2.1 151 = .ok (.aload_n 0, 1) := by decide +kernel
theorem d_M_init_152 : decode y_M_init.2.1 152 = .ok (.bipush 8, 2) := by decide +kernel
theorem d_M_init_154 : decode y_M_init.2.1 154 = .ok (.newarray .boolean, 2) := by decide +kernel
theorem d_M_init_156 : decode y_M_init.2.1 156 = .ok (.putfield 77, 3) := by decide +kernel
theorem d_M_init_159 : decode y_M_init.2.1 159 = .ok (.aload_n 0, 1) := by decide +kernel
theorem d_M_init_160 : decode y_M_init.2.1 160 = .ok (.bipush 8, 2) := by decide +kernel
theorem d_M_init_162 : decode y_M_init.2.1 162 = .ok (.newarray .boolean, 2) := by decide +kernel
theorem d_M_init_164 : decode y_M_init.2.1 164 = .ok (.putfield 80, 3) := by decide +kernel
theorem d_M_init_167 : decode y_M_init.2.1 167 = .ok (.iload_n 1, 1) := by decide +kernel
theorem d_M_init_168 : decode y_M_init.2.1 168 = .ok (.iconst 1, 1) := by decide +kernel
theorem d_M_init_169 : decode y_M_init.2.1 169 = .ok (.if_icmp .ge 7, 3) := by decide +kernel
theorem d_M_init_172 : decode y_M_init.2.1 172 = .ok (.iconst 1, 1) := by decide +kernel
theorem d_M_init_173 : decode y_M_init.2.1 173 = .ok (.goto 15, 3) := by decide +kernel
theorem d_M_init_176 : decode y_M_init.2.1 176 = .ok (.iload_n 1, 1) := by decide +kernel
theorem d_M_init_177 : decode y_M_init.2.1 177 = .ok (.bipush 8, 2) := by decide +kernel
theorem d_M_init_179 : decode y_M_init.2.1 179 = .ok (.if_icmp .le 8, 3) := by decide +kernel
theorem d_M_init_182 : decode y_M_init.2.1 182 = .ok (.bipush 8, 2) := by decide +kernel
theorem d_M_init_184 : decode y_M_init.2.1 184 = .ok (.goto 4, 3) := by decide +kernel
theorem d_M_init_187 : decode y_M_init.2.1 187 = .ok (.iload_n 1, 1) := by decide +kernel
theorem d_M_init_188 : decode y_M_init.2.1 188 = .ok (.istore_n 2, 1) := by decide +kernel
theorem d_M_init_189 : decode y_M_init.2.1 189 = .ok (.iconst 0, 1) := by decide +kernel
theorem d_M_init_190 : decode y_M_init.2.1 190 = .ok (.istore_n 3, 1) := by decide +kernel
theorem d_M_init_191 : decode y_M_init.2.1 191 = .ok (.iload_n 3, 1) := by decide +kernel
theorem d_M_init_192 : decode y_M_init.2.1 192 = .ok (.iload_n 2, 1) := by decide +kernel
theorem d_M_init_193 : decode y_M_init.2.1 193 = .ok (.if_icmp .ge 16, 3) := by decide +kernel
theorem d_M_init_196 : decode y_M_init.2.1 196 = .ok (.aload_n 0, 1) := by decide +kernel
theorem d_M_init_197 : decode y_M_init.2.1 197 = .ok (.getfield 77, 3) := by decide +kernel
theorem d_M_init_200 : decode y_M_init.2.1 200 = .ok (.iload_n 3, 1) := by decide +kernel
theorem d_M_init_201 : decode y_M_init.2.1 201 = .ok (.iconst 1, 1) := by decide +kernel
theorem d_M_init_202 : decode y_M_init.2.1 202 = .ok (.bastore, 1) := by decide +kernel
theorem d_M_init_203 : decode y_M_init.2.1 203 = .ok (.iinc 3 1, 3) := by decide +kernel
theorem d_M_init_206 : decode y_M_init.2.1 206 = .ok (.goto (-15), 3) := by decide +kernel
theorem d_M_init_209 : decode y_M_init.2.1 209 = .ok (.return_, 1) := by decide +kernel
theorem s_MText_init : ab_Stat y_MText_init 0 := ⟨(k8 157 rfl rfl), (k1 20 rfl rfl), ⟨by decide, by decide⟩, by decide +kernel⟩
theorem i_MText_init : Cond.instanceMethod y_MText_init.1 ∈ ab_T := (k8 156 rfl rfl)
theorem s_MWorld_init : ab_Stat y_MWorld_init 0 := ⟨(k9 81 rfl rfl), (k1 21 rfl rfl), ⟨by decide, by decide⟩, by decide +kernel⟩
theorem i_MWorld_init : Cond.instanceMethod y_MWorld_init.1 ∈ ab_T := (k9 80 rfl rfl)
theorem s_MWorld_begin : ab_Stat y_MWorld_begin 0 := ⟨(k9 86 rfl rfl), (k1 21 rfl rfl), ⟨by decide, by decide⟩, by decide +kernel⟩
theorem i_MWorld_begin : Cond.instanceMethod y_MWorld_begin.1 ∈ ab_T := (k9 84 rfl rfl)
theorem v_MWorld_begin : Cond.selects "WorldEngineModel$World" y_MWorld_begin.1 y_MWorld_begin.1 ∈ ab_T := (k9 85 rfl rfl)
theorem s_MRunner_init : ab_Stat y_MRunner_init 0 := ⟨(k9 180 rfl rfl), (k1 22 rfl rfl), ⟨by decide, by decide⟩, by decide +kernel⟩
theorem i_MRunner_init : Cond.instanceMethod y_MRunner_init.1 ∈ ab_T := (k9 179 rfl rfl)
theorem s_M_init : ab_Stat y_M_init 1 := ⟨(k8 151 rfl rfl), (k1 19 rfl rfl), ⟨by decide, by decide⟩, by decide +kernel⟩
theorem i_M_init : Cond.instanceMethod y_M_init.1 ∈ ab_T := (k8 150 rfl rfl)
