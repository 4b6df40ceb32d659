def y_MRunner_value : ab_Y := (⟨"WorldEngineModel$Runner", "value", "()I"⟩, prog_15_method_22_code, 3, (some FieldType.int), [])
theorem d_MRunner_value_0 : decode y_MRunner_value.2.1 0 = .ok (.aload_n 0, 1) := by decide +kernel
theorem d_MRunner_value_1 : decode y_MRunner_value.2.1 1 = .ok (.invokevirtual 239, 3) := by decide +kernel
theorem d_MRunner_value_4 : decode y_MRunner_value.2.1 4 = .ok (.istore_n 1, 1) := by decide +kernel
theorem d_MRunner_value_5 : decode y_MRunner_value.2.1 5 = .ok (.aload_n 0, 1) := by decide +kernel
theorem d_MRunner_value_6 : decode y_MRunner_value.2.1 6 = .ok (.bipush 10, 2) := by decide +kernel
theorem d_MRunner_value_8 : decode y_MRunner_value.2.1 8 = .ok (.invokevirtual 242, 3) := by decide +kernel
theorem d_MRunner_value_11 : decode y_MRunner_value.2.1 11 = .ok (.ifCond .eq 67, 3) := by decide +kernel
theorem d_MRunner_value_14 : decode y_MRunner_value.2.1 14 = .ok (.aload_n 0, 1) := by decide +kernel
theorem d_MRunner_value_15 : decode y_MRunner_value.2.1 15 = .ok (.dup, 1) := by decide +kernel
theorem d_MRunner_value_16 : decode y_MRunner_value.2.1 16 = .ok (.getfield 108, 3) := by decide +kernel
theorem d_MRunner_value_19 : decode y_MRunner_value.2.1 19 = .ok (.iconst 1, 1) := by decide +kernel
theorem d_MRunner_value_20 : decode y_MRunner_value.2.1 20 = .ok (.iadd, 1) := by decide +kernel
theorem d_MRunner_value_21 : decode y_MRunner_value.2.1 21 = .ok (.putfield 108, 3) := by decide +kernel
theorem d_MRunner_value_24 : decode y_MRunner_value.2.1 24 = .ok (.aload_n 0, 1) := by decide +kernel
theorem d_MRunner_value_25 : decode y_MRunner_value.2.1 25 = .ok (.dup, 1) := by decide +kernel
theorem d_MRunner_value_26 : decode y_MRunner_value.2.1 26 = .ok (.getfield 99, 3) := by decide +kernel
theorem d_MRunner_value_29 : decode y_MRunner_value.2.1 29 = .ok (.iload_n 1, 1) := by decide +kernel
theorem d_MRunner_value_30 : decode y_MRunner_value.2.1 30 = .ok (.ifCond .eq 7, 3) := by decide +kernel
theorem d_MRunner_value_33 : decode y_MRunner_value.2.1 33 = .ok (.iconst 1, 1) := by decide +kernel
theorem d_MRunner_value_34 : decode y_MRunner_value.2.1 34 = .ok (.goto 4, 3) := by decide +kernel
theorem d_MRunner_value_37 : decode y_MRunner_value.2.1 37 = .ok (.iconst 0, 1) := by decide +kernel
theorem d_MRunner_value_38 : decode y_MRunner_value.2.1 38 = .ok (.iadd, 1) := by decide +kernel
theorem d_MRunner_value_39 : decode y_MRunner_value.2.1 39 = .ok (.putfield 99, 3) := by decide +kernel
theorem d_MRunner_value_42 : decode y_MRunner_value.2.1 42 = .ok (.aload_n 0, 1) := by decide +kernel
theorem d_MRunner_value_43 : decode y_MRunner_value.2.1 43 = .ok (.invokevirtual 239, 3) := by decide +kernel
theorem d_MRunner_value_46 : decode y_MRunner_value.2.1 46 = .ok (.istore_n 2, 1) := by decide +kernel
theorem d_MRunner_value_47 : decode y_MRunner_value.2.1 47 = .ok (.aload_n 0, 1) := by decide +kernel
theorem d_MRunner_value_48 : decode y_MRunner_value.2.1 48 = .ok (.dup, 1) := by decide +kernel
theorem d_MRunner_value_49 : decode y_MRunner_value.2.1 49 = .ok (.getfield 99, 3) := by decide +kernel
theorem d_MRunner_value_52 : decode y_MRunner_value.2.1 52 = .ok (.iload_n 1, 1) := by decide +kernel
theorem d_MRunner_value_53 : decode y_MRunner_value.2.1 53 = .ok (.ifCond .eq 7, 3) := by decide +kernel
theorem d_MRunner_value_56 : decode y_MRunner_value.2.1 56 = .ok (.iconst 1, 1) := by decide +kernel
theorem d_MRunner_value_57 : decode y_MRunner_value.2.1 57 = .ok (.goto 4, 3) := by decide +kernel
theorem d_MRunner_value_60 : decode y_MRunner_value.2.1 60 = .ok (.iconst 0, 1) := by decide +kernel
theorem d_MRunner_value_61 : decode y_MRunner_value.2.1 61 = .ok (.isub, 1) := by decide +kernel
theorem d_MRunner_value_62 : decode y_MRunner_value.2.1 62 = .ok (.putfield 99, 3) := by decide +kernel
theorem d_MRunner_value_65 : decode y_MRunner_value.2.1 65 = .ok (.iload_n 1, 1) := by decide +kernel
theorem d_MRunner_value_66 : decode y_MRunner_value.2.1 66 = .ok (.ifCond .eq 7, 3) := by decide +kernel
theorem d_MRunner_value_69 : decode y_MRunner_value.2.1 69 = .ok (.iload_n 1, 1) := by decide +kernel
theorem d_MRunner_value_70 : decode y_MRunner_value.2.1 70 = .ok (.goto 4, 3) := by decide +kernel
theorem d_MRunner_value_73 : decode y_MRunner_value.2.1 73 = .ok (.iload_n 2, 1) := by decide +kernel
theorem d_MRunner_value_74 : decode y_MRunner_value.2.1 74 = .ok (.istore_n 1, 1) := by decide +kernel
theorem d_MRunner_value_75 : decode y_MRunner_value.2.1 75 = .ok (.goto (-70), 3) := by decide +kernel
theorem d_MRunner_value_78 : decode y_MRunner_value.2.1 78 = .ok (.iload_n 1, 1) := by decide +kernel
theorem d_MRunner_value_79 : decode y_MRunner_value.2.1 79 = .ok (.ireturn, 1) := by decide +kernel
theorem s_MRunner_value : ab_Stat y_MRunner_value 0 := ⟨(k12 13 rfl rfl), (k1 22 rfl rfl), ⟨by decide, by decide⟩, by decide +kernel⟩
theorem i_MRunner_value : Cond.instanceMethod y_MRunner_value.1 ∈ ab_T := (k12 12 rfl rfl)
theorem v_MRunner_value : Cond.selects "WorldEngineModel$Runner" y_MRunner_value.1 y_MRunner_value.1 ∈ ab_T := ab_s (List.mem_of_getElem? (i := 181) rfl) rfl
def y_MRunner_unary : ab_Y := (⟨"WorldEngineModel$Runner", "unary", "()I"⟩, prog_15_method_29_code, 3, (some FieldType.int), [])
theorem d_MRunner_unary_0 : decode y_MRunner_unary.2.1 0 = .ok (.aload_n 0, 1) := by decide +kernel
theorem d_MRunner_unary_1 : decode y_MRunner_unary.2.1 1 = .ok (.bipush 45, 2) := by decide +kernel
theorem d_MRunner_unary_3 : decode y_MRunner_unary.2.1 3 = .ok (.invokevirtual 242, 3) := by decide +kernel
theorem d_MRunner_unary_6 : decode y_MRunner_unary.2.1 6 = .ok (.ifCond .ne 17, 3) := by decide +kernel
theorem d_MRunner_unary_9 : decode y_MRunner_unary.2.1 9 = .ok (.aload_n 0, 1) := by decide +kernel
theorem d_MRunner_unary_10 : decode y_MRunner_unary.2.1 10 = .ok (.bipush 33, 2) := by decide +kernel
theorem d_MRunner_unary_12 : decode y_MRunner_unary.2.1 12 = .ok (.invokevirtual 242, 3) := by decide +kernel
theorem d_MRunner_unary_15 : decode y_MRunner_unary.2.1 15 = .ok (.ifCond .ne 8, 3) := by decide +kernel
theorem d_MRunner_unary_18 : decode y_MRunner_unary.2.1 18 = .ok (.aload_n 0, 1) := by decide +kernel
theorem d_MRunner_unary_19 : decode y_MRunner_unary.2.1 19 = .ok (.invokevirtual 270, 3) := by decide +kernel
theorem d_MRunner_unary_22 : decode y_MRunner_unary.2.1 22 = .ok (.ireturn, 1) := by decide +kernel
theorem d_MRunner_unary_23 : decode y_MRunner_unary.2.1 23 = .ok (.aload_n 0, 1) := by decide +kernel
theorem d_MRunner_unary_24 : decode y_MRunner_unary.2.1 24 = .ok (.getfield 108, 3) := by decide +kernel
theorem d_MRunner_unary_27 : decode y_MRunner_unary.2.1 27 = .ok (.istore_n 1, 1) := by decide +kernel
theorem d_MRunner_unary_28 : decode y_MRunner_unary.2.1 28 = .ok (.aload_n 0, 1) := by decide +kernel
theorem d_MRunner_unary_29 : decode y_MRunner_unary.2.1 29 = .ok (.dup, 1) := by decide +kernel
theorem d_MRunner_unary_30 : decode y_MRunner_unary.2.1 30 = .ok (.getfield 108, 3) := by decide +kernel
theorem d_MRunner_unary_33 : decode y_MRunner_unary.2.1 33 = .ok (.iconst 1, 1) := by decide +kernel
theorem d_MRunner_unary_34 : decode y_MRunner_unary.2.1 34 = .ok (.iadd, 1) := by decide +kernel
theorem d_MRunner_unary_35 : decode y_MRunner_unary.2.1 35 = .ok (.putfield 108, 3) := by decide +kernel
theorem d_MRunner_unary_38 : decode y_MRunner_unary.2.1 38 = .ok (.aload_n 0, 1) := by decide +kernel
theorem d_MRunner_unary_39 : decode y_MRunner_unary.2.1 39 = .ok (.invokevirtual 254, 3) := by decide +kernel
theorem d_MRunner_unary_42 : decode y_MRunner_unary.2.1 42 = .ok (.istore_n 2, 1) := by decide +kernel
theorem d_MRunner_unary_43 : decode y_MRunner_unary.2.1 43 = .ok (.aload_n 0, 1) := by decide +kernel
theorem d_MRunner_unary_44 : decode y_MRunner_unary.2.1 44 = .ok (.getfield 25, 3) := by decide +kernel
theorem d_MRunner_unary_47 : decode y_MRunner_unary.2.1 47 = .ok (.getfield 131, 3) := by decide +kernel
theorem d_MRunner_unary_50 : decode y_MRunner_unary.2.1 50 = .ok (.iload_n 1, 1) := by decide +kernel
theorem d_MRunner_unary_51 : decode y_MRunner_unary.2.1 51 = .ok (.iaload, 1) := by decide +kernel
theorem d_MRunner_unary_52 : decode y_MRunner_unary.2.1 52 = .ok (.bipush 33, 2) := by decide +kernel
theorem d_MRunner_unary_54 : decode y_MRunner_unary.2.1 54 = .ok (.if_icmp .ne 9, 3) := by decide +kernel
theorem d_MRunner_unary_57 : decode y_MRunner_unary.2.1 57 = .ok (.iconst 1, 1) := by decide +kernel
theorem d_MRunner_unary_58 : decode y_MRunner_unary.2.1 58 = .ok (.iload_n 2, 1) := by decide +kernel
theorem d_MRunner_unary_59 : decode y_MRunner_unary.2.1 59 = .ok (.isub, 1) := by decide +kernel
theorem d_MRunner_unary_60 : decode y_MRunner_unary.2.1 60 = .ok (.goto 18, 3) := by decide +kernel
theorem d_MRunner_unary_63 : decode y_MRunner_unary.2.1 63 = .ok (.aload_n 0, 1) := by decide +kernel
theorem d_MRunner_unary_64 : decode y_MRunner_unary.2.1 64 = .ok (.getfield 25, 3) := by decide +kernel
theorem d_MRunner_unary_67 : decode y_MRunner_unary.2.1 67 = .ok (.getfield 122, 3) := by decide +kernel
theorem d_MRunner_unary_70 : decode y_MRunner_unary.2.1 70 = .ok (.iload_n 1, 1) := by decide +kernel
theorem d_MRunner_unary_71 : decode y_MRunner_unary.2.1 71 = .ok (.iaload, 1) := by decide +kernel
theorem d_MRunner_unary_72 : decode y_MRunner_unary.2.1 72 = .ok (.iload_n 2, 1) := by decide +kernel
theorem d_MRunner_unary_73 : decode y_MRunner_unary.2.1 73 = .ok (.i2l, 1) := by decide +kernel
theorem d_MRunner_unary_74 : decode y_MRunner_unary.2.1 74 = .ok (.lneg, 1) := by decide +kernel
theorem d_MRunner_unary_75 : decode y_MRunner_unary.2.1 75 = .ok (.invokestatic 167, 3) := by decide +kernel
theorem d_MRunner_unary_78 : decode y_MRunner_unary.2.1 78 = .ok (.ireturn, 1) := by decide +kernel
theorem s_MRunner_unary : ab_Stat y_MRunner_unary 0 := ⟨(k12 33 rfl rfl), (k1 22 rfl rfl), ⟨by decide, by decide⟩, by decide +kernel⟩
theorem i_MRunner_unary : Cond.instanceMethod y_MRunner_unary.1 ∈ ab_T := (k12 32 rfl rfl)
theorem v_MRunner_unary : Cond.selects "WorldEngineModel$Runner" y_MRunner_unary.1 y_MRunner_unary.1 ∈ ab_T := ab_s (List.mem_of_getElem? (i := 186) rfl) rfl
def y_MRunner_primary : ab_Y := (⟨"WorldEngineModel$Runner", "primary", "()I"⟩, prog_15_method_30_code, 6, (some FieldType.int), [])
theorem d_MRunner_primary_0 : decode y_MRunner_primary.2.1 0 = .ok (.aload_n 0, 1) := by decide +kernel
theorem d_MRunner_primary_1 : decode y_MRunner_primary.2.1 1 = .ok (.getfield 96, 3) := by decide +kernel
theorem d_MRunner_primary_4 : decode y_MRunner_primary.2.1 4 = .ok (.ifCond .le 5, 3) := by decide +kernel
theorem d_MRunner_primary_7 : decode y_MRunner_primary.2.1 7 = .ok (.iconst 0, 1) := by decide +kernel
theorem d_MRunner_primary_8 : decode y_MRunner_primary.2.1 8 = .ok (.ireturn, 1) := by decide +kernel
theorem d_MRunner_primary_9 : decode y_MRunner_primary.2.1 9 = .ok (.aload_n 0, 1) := by decide +kernel
theorem d_MRunner_primary_10 : decode y_MRunner_primary.2.1 10 = .ok (.getfield 108, 3) := by decide +kernel
theorem d_MRunner_primary_13 : decode y_MRunner_primary.2.1 13 = .ok (.istore_n 1, 1) := by decide +kernel
theorem d_MRunner_primary_14 : decode y_MRunner_primary.2.1 14 = .ok (.aload_n 0, 1) := by decide +kernel
theorem d_MRunner_primary_15 : decode y_MRunner_primary.2.1 15 = .ok (.dup, 1) := by decide +kernel
theorem d_MRunner_primary_16 : decode y_MRunner_primary.2.1 16 = .ok (.getfield 108, 3) := by decide +kernel
theorem d_MRunner_primary_19 : decode y_MRunner_primary.2.1 19 = .ok (.iconst 1, 1) := by decide +kernel
theorem d_MRunner_primary_20 : decode y_MRunner_primary.2.1 20 = .ok (.iadd, 1) := by decide +kernel
theorem d_MRunner_primary_21 : decode y_MRunner_primary.2.1 21 = .ok (.putfield 108, 3) := by decide +kernel
theorem d_MRunner_primary_24 : decode y_MRunner_primary.2.1 24 = .ok (.aload_n 0, 1) := by decide +kernel
theorem d_MRunner_primary_25 : decode y_MRunner_primary.2.1 25 = .ok (.getfield 25, 3) := by decide +kernel
theorem d_MRunner_primary_28 : decode y_MRunner_primary.2.1 28 = .ok (.getfield 131, 3) := by decide +kernel
theorem d_MRunner_primary_31 : decode y_MRunner_primary.2.1 31 = .ok (.iload_n 1, 1) := by decide +kernel
theorem d_MRunner_primary_32 : decode y_MRunner_primary.2.1 32 = .ok (.iaload, 1) := by decide +kernel
theorem d_MRunner_primary_33 : decode y_MRunner_primary.2.1 33 = .ok (.lookupswitch 203 #[(1, 120), (2, 91), (3, 91), (40, 126), (231, 101), (232, 103), (233, 105), (234, 107), (235, 112), (240, 143)], 91) := by decide +kernel
theorem d_MRunner_primary_124 : decode y_MRunner_primary.2.1 124 = .ok (.aload_n 0, 1) := by decide +kernel
theorem d_MRunner_primary_125 : decode y_MRunner_primary.2.1 125 = .ok (.getfield 25, 3) := by decide +kernel
theorem d_MRunner_primary_128 : decode y_MRunner_primary.2.1 128 = .ok (.getfield 273, 3) := by decide +kernel
theorem d_MRunner_primary_131 : decode y_MRunner_primary.2.1 131 = .ok (.iload_n 1, 1) := by decide +kernel
theorem d_MRunner_primary_132 : decode y_MRunner_primary.2.1 132 = .ok (.iaload, 1) := by decide +kernel
theorem d_MRunner_primary_133 : decode y_MRunner_primary.2.1 133 = .ok (.ireturn, 1) := by decide +kernel
theorem d_MRunner_primary_134 : decode y_MRunner_primary.2.1 134 = .ok (.iconst 1, 1) := by decide +kernel
theorem d_MRunner_primary_135 : decode y_MRunner_primary.2.1 135 = .ok (.ireturn, 1) := by decide +kernel
theorem d_MRunner_primary_136 : decode y_MRunner_primary.2.1 136 = .ok (.iconst 0, 1) := by decide +kernel
theorem d_MRunner_primary_137 : decode y_MRunner_primary.2.1 137 = .ok (.ireturn, 1) := by decide +kernel
theorem d_MRunner_primary_138 : decode y_MRunner_primary.2.1 138 = .ok (.iconst (-1), 1) := by decide +kernel
theorem d_MRunner_primary_139 : decode y_MRunner_primary.2.1 139 = .ok (.ireturn, 1) := by decide +kernel
theorem d_MRunner_primary_140 : decode y_MRunner_primary.2.1 140 = .ok (.aload_n 0, 1) := by decide +kernel
theorem d_MRunner_primary_141 : decode y_MRunner_primary.2.1 141 = .ok (.getfield 84, 3) := by decide +kernel
theorem d_MRunner_primary_144 : decode y_MRunner_primary.2.1 144 = .ok (.ireturn, 1) := by decide +kernel
theorem d_MRunner_primary_145 : decode y_MRunner_primary.2.1 145 = .ok (.aload_n 0, 1) := by decide +kernel
theorem d_MRunner_primary_146 : decode y_MRunner_primary.2.1 146 = .ok (.getfield 29, 3) := by decide +kernel
theorem d_MRunner_primary_149 : decode y_MRunner_primary.2.1 149 = .ok (.getfield 36, 3) := by decide +kernel
theorem d_MRunner_primary_152 : decode y_MRunner_primary.2.1 152 = .ok (.ireturn, 1) := by decide +kernel
theorem d_MRunner_primary_153 : decode y_MRunner_primary.2.1 153 = .ok (.aload_n 0, 1) := by decide +kernel
theorem d_MRunner_primary_154 : decode y_MRunner_primary.2.1 154 = .ok (.iload_n 1, 1) := by decide +kernel
theorem d_MRunner_primary_155 : decode y_MRunner_primary.2.1 155 = .ok (.invokevirtual 275, 3) := by decide +kernel
theorem d_MRunner_primary_158 : decode y_MRunner_primary.2.1 158 = .ok (.ireturn, 1) := by decide +kernel
theorem d_MRunner_primary_159 : decode y_MRunner_primary.2.1 159 = .ok (.aload_n 0, 1) := by decide +kernel
theorem d_MRunner_primary_160 : decode y_MRunner_primary.2.1 160 = .ok (.invokevirtual 137, 3) := by decide +kernel
theorem d_MRunner_primary_163 : decode y_MRunner_primary.2.1 163 = .ok (.istore_n 2, 1) := by decide +kernel
theorem d_MRunner_primary_164 : decode y_MRunner_primary.2.1 164 = .ok (.aload_n 0, 1) := by decide +kernel
theorem d_MRunner_primary_165 : decode y_MRunner_primary.2.1 165 = .ok (.dup, 1) := by decide +kernel
theorem d_MRunner_primary_166 : decode y_MRunner_primary.2.1 166 = .ok (.getfield 108, 3) := by decide +kernel
theorem d_MRunner_primary_169 : decode y_MRunner_primary.2.1 169 = .ok (.iconst 1, 1) := by decide +kernel
theorem d_MRunner_primary_170 : decode y_MRunner_primary.2.1 170 = .ok (.iadd, 1) := by decide +kernel
theorem d_MRunner_primary_171 : decode y_MRunner_primary.2.1 171 = .ok (.putfield 108, 3) := by decide +kernel
theorem d_MRunner_primary_174 : decode y_MRunner_primary.2.1 174 = .ok (.iload_n 2, 1) := by decide +kernel
theorem d_MRunner_primary_175 : decode y_MRunner_primary.2.1 175 = .ok (.ireturn, 1) := by decide +kernel
theorem d_MRunner_primary_176 : decode y_MRunner_primary.2.1 176 = .ok (.aload_n 0, 1) := by decide +kernel
theorem d_MRunner_primary_177 : decode y_MRunner_primary.2.1 177 = .ok (.dup, 1) := by decide +kernel
theorem d_MRunner_primary_178 : decode y_MRunner_primary.2.1 178 = .ok (.getfield 108, 3) := by decide +kernel
theorem d_MRunner_primary_181 : decode y_MRunner_primary.2.1 181 = .ok (.iconst 1, 1) := by decide +kernel
theorem d_MRunner_primary_182 : decode y_MRunner_primary.2.1 182 = .ok (.iadd, 1) := by decide +kernel
theorem d_MRunner_primary_183 : decode y_MRunner_primary.2.1 183 = .ok (.putfield 108, 3) := by decide +kernel
theorem d_MRunner_primary_186 : decode y_MRunner_primary.2.1 186 = .ok (.aload_n 0, 1) := by decide +kernel
theorem d_MRunner_primary_187 : decode y_MRunner_primary.2.1 187 = .ok (.invokevirtual 137, 3) := by decide +kernel
theorem d_MRunner_primary_190 : decode y_MRunner_primary.2.1 190 = .ok (.istore_n 3, 1) := by decide +kernel
theorem d_MRunner_primary_191 : decode y_MRunner_primary.2.1 191 = .ok (.aload_n 0, 1) := by decide +kernel
theorem d_MRunner_primary_192 : decode y_MRunner_primary.2.1 192 = .ok (.getfield 25, 3) := by decide +kernel
theorem d_MRunner_primary_195 : decode y_MRunner_primary.2.1 195 = .ok (.getfield 122, 3) := by decide +kernel
theorem d_MRunner_primary_198 : decode y_MRunner_primary.2.1 198 = .ok (.aload_n 0, 1) := by decide +kernel
theorem d_MRunner_primary_199 : decode y_MRunner_primary.2.1 199 = .ok (.getfield 108, 3) := by decide +kernel
theorem d_MRunner_primary_202 : decode y_MRunner_primary.2.1 202 = .ok (.iconst 1, 1) := by decide +kernel
theorem d_MRunner_primary_203 : decode y_MRunner_primary.2.1 203 = .ok (.iadd, 1) := by decide +kernel
theorem d_MRunner_primary_204 : decode y_MRunner_primary.2.1 204 = .ok (.iaload, 1) := by decide +kernel
theorem d_MRunner_primary_205 : decode y_MRunner_primary.2.1 205 = .ok (.istore 4, 2) := by decide +kernel
theorem d_MRunner_primary_207 : decode y_MRunner_primary.2.1 207 = .ok (.aload_n 0, 1) := by decide +kernel
theorem d_MRunner_primary_208 : decode y_MRunner_primary.2.1 208 = .ok (.dup, 1) := by decide +kernel
theorem d_MRunner_primary_209 : decode y_MRunner_primary.2.1 209 = .ok (.getfield 108, 3) := by decide +kernel
theorem d_MRunner_primary_212 : decode y_MRunner_primary.2.1 212 = .ok (.iconst 3, 1) := by decide +kernel
theorem d_MRunner_primary_213 : decode y_MRunner_primary.2.1 213 = .ok (.iadd, 1) := by decide +kernel
theorem d_MRunner_primary_214 : decode y_MRunner_primary.2.1 214 = .ok (.putfield 108, 3) := by decide +kernel
theorem d_MRunner_primary_217 : decode y_MRunner_primary.2.1 217 = .ok (.aload_n 0, 1) := by decide +kernel
theorem d_MRunner_primary_218 : decode y_MRunner_primary.2.1 218 = .ok (.getfield 29, 3) := by decide +kernel
theorem d_MRunner_primary_221 : decode y_MRunner_primary.2.1 221 = .ok (.iload_n 3, 1) := by decide +kernel
theorem d_MRunner_primary_222 : decode y_MRunner_primary.2.1 222 = .ok (.iload 4, 2) := by decide +kernel
theorem d_MRunner_primary_224 : decode y_MRunner_primary.2.1 224 = .ok (.invokevirtual 233, 3) := by decide +kernel
theorem d_MRunner_primary_227 : decode y_MRunner_primary.2.1 227 = .ok (.ifCond .eq 7, 3) := by decide +kernel
theorem d_MRunner_primary_230 : decode y_MRunner_primary.2.1 230 = .ok (.iconst 1, 1) := by decide +kernel
theorem d_MRunner_primary_231 : decode y_MRunner_primary.2.1 231 = .ok (.goto 4, 3) := by decide +kernel
theorem d_MRunner_primary_234 : decode y_MRunner_primary.2.1 234 = .ok (.iconst 0, 1) := by decide +kernel
theorem d_MRunner_primary_235 : decode y_MRunner_primary.2.1 235 = .ok (.ireturn, 1) := by decide +kernel
theorem d_MRunner_primary_236 : decode y_MRunner_primary.2.1 236 = .ok (.aload_n 0, 1) := by decide +kernel
theorem d_MRunner_primary_237 : decode y_MRunner_primary.2.1 237 = .ok (.dup, 1) := by decide +kernel
theorem d_MRunner_primary_238 : decode y_MRunner_primary.2.1 238 = .ok (.getfield 108, 3) := by decide +kernel
theorem d_MRunner_primary_241 : decode y_MRunner_primary.2.1 241 = .ok (.iconst 1, 1) := by decide +kernel
theorem d_MRunner_primary_242 : decode y_MRunner_primary.2.1 242 = .ok (.iadd, 1) := by decide +kernel
theorem d_MRunner_primary_243 : decode y_MRunner_primary.2.1 243 = .ok (.putfield 108, 3) := by decide +kernel
theorem d_MRunner_primary_246 : decode y_MRunner_primary.2.1 246 = .ok (.aload_n 0, 1) := by decide +kernel
theorem d_MRunner_primary_247 : decode y_MRunner_primary.2.1 247 = .ok (.invokevirtual 137, 3) := by decide +kernel
theorem d_MRunner_primary_250 : decode y_MRunner_primary.2.1 250 = .ok (.istore 5, 2) := by decide +kernel
theorem d_MRunner_primary_252 : decode y_MRunner_primary.2.1 252 = .ok (.aload_n 0, 1) := by decide +kernel
theorem d_MRunner_primary_253 : decode y_MRunner_primary.2.1 253 = .ok (.dup, 1) := by decide +kernel
theorem d_MRunner_primary_254 : decode y_MRunner_primary.2.1 254 = .ok (.getfield 108, 3) := by decide +kernel
theorem d_MRunner_primary_257 : decode y_MRunner_primary.2.1 257 = .ok (.iconst 1, 1) := by decide +kernel
theorem d_MRunner_primary_258 : decode y_MRunner_primary.2.1 258 = .ok (.iadd, 1) := by decide +kernel
theorem d_MRunner_primary_259 : decode y_MRunner_primary.2.1 259 = .ok (.putfield 108, 3) := by decide +kernel
theorem d_MRunner_primary_262 : decode y_MRunner_primary.2.1 262 = .ok (.aload_n 0, 1) := by decide +kernel
theorem d_MRunner_primary_263 : decode y_MRunner_primary.2.1 263 = .ok (.getfield 96, 3) := by decide +kernel
theorem d_MRunner_primary_266 : decode y_MRunner_primary.2.1 266 = .ok (.ifCond .gt 10, 3) := by decide +kernel
theorem d_MRunner_primary_269 : decode y_MRunner_primary.2.1 269 = .ok (.aload_n 0, 1) := by decide +kernel
theorem d_MRunner_primary_270 : decode y_MRunner_primary.2.1 270 = .ok (.getfield 99, 3) := by decide +kernel
theorem d_MRunner_primary_273 : decode y_MRunner_primary.2.1 273 = .ok (.ifCond .le 7, 3) := by decide +kernel
theorem d_MRunner_primary_276 : decode y_MRunner_primary.2.1 276 = .ok (.iconst 0, 1) := by decide +kernel
theorem d_MRunner_primary_277 : decode y_MRunner_primary.2.1 277 = .ok (.goto 18, 3) := by decide +kernel
theorem d_MRunner_primary_280 : decode y_MRunner_primary.2.1 280 = .ok (.aload_n 0, 1) := by decide +kernel
theorem d_MRunner_primary_281 : decode y_MRunner_primary.2.1 281 = .ok (.aload_n 0, 1) := by decide +kernel
theorem d_MRunner_primary_282 : decode y_MRunner_primary.2.1 282 = .ok (.getfield 25, 3) := by decide +kernel
theorem d_MRunner_primary_285 : decode y_MRunner_primary.2.1 285 = .ok (.getfield 131, 3) := by decide +kernel
theorem d_MRunner_primary_288 : decode y_MRunner_primary.2.1 288 = .ok (.iload_n 1, 1) := by decide +kernel
theorem d_MRunner_primary_289 : decode y_MRunner_primary.2.1 289 = .ok (.iaload, 1) := by decide +kernel
theorem d_MRunner_primary_290 : decode y_MRunner_primary.2.1 290 = .ok (.iload 5, 2) := by decide +kernel
theorem d_MRunner_primary_292 : decode y_MRunner_primary.2.1 292 = .ok (.invokevirtual 278, 3) := by decide +kernel
theorem d_MRunner_primary_295 : decode y_MRunner_primary.2.1 295 = .ok (.ireturn, 1) := by decide +kernel
theorem s_MRunner_primary : ab_Stat y_MRunner_primary 0 := ⟨(k12 41 rfl rfl), (k1 22 rfl rfl), ⟨by decide, by decide⟩, by decide +kernel⟩
theorem i_MRunner_primary : Cond.instanceMethod y_MRunner_primary.1 ∈ ab_T := (k12 40 rfl rfl)
theorem v_MRunner_primary : Cond.selects "WorldEngineModel$Runner" y_MRunner_primary.1 y_MRunner_primary.1 ∈ ab_T := ab_s (List.mem_of_getElem? (i := 188) rfl) rfl
abbrev Orc_RunE : Type := (Nat → Hp → Option (Int32 × Hp)) × (Nat → Hp → Option (Int32 × Hp))
def ok_RunE (o : Orc_RunE) (fr lo : Nat) : Prop :=
  3 ≤ fr ∧ 65 ≤ lo ∧
  (∀ (a0 : Nat) (H : Hp) (r : Int32 × Hp), o.1 a0 H = some r → ab_M y_MRunner_value { frames := fr, cells := 0, slots := 0, locals := lo } [.ref a0] (hpw H) (po (.returned (some (.int r.1))) r.2)) ∧
  (∀ (a0 : Nat) (H : Hp) (r : Int32 × Hp), o.2 a0 H = some r → ab_M y_MRunner_unary { frames := fr, cells := 0, slots := 0, locals := lo } [.ref a0] (hpw H) (po (.returned (some (.int r.1))) r.2))
def mo_RunE (o : Orc_RunE) : Prop :=
  (∀ (a0 : Nat) (H : Hp) (r : Int32 × Hp), o.1 a0 H = some r → Sa H r.2) ∧
  (∀ (a0 : Nat) (H : Hp) (r : Int32 × Hp), o.2 a0 H = some r → Sa H r.2)
def B_MRunner_primary_276 (N : Nat) (o : Orc_RunE) (p0 : Nat)  (H : Hp) : Option (Int32 × Hp) :=
    some (0, H)
set_option maxRecDepth 20000 in
set_option maxHeartbeats 2000000 in
theorem mB_MRunner_primary_276 {N : Nat} {o : Orc_RunE} (hmo : mo_RunE o) {p0 : Nat}  {H : Hp} {r : Int32 × Hp} (hF : B_MRunner_primary_276 N o p0  H = some r) : Sa H r.2 := by
  unfold B_MRunner_primary_276 at hF
  have hm := Sa.rf H
  have hr := Option.some.inj hF; subst hr
  exact hm
set_option maxRecDepth 20000 in
set_option maxHeartbeats 2000000 in
theorem kB_MRunner_primary_276 {N : Nat} {o : Orc_RunE} {fr lo : Nat} (ho : ok_RunE o fr lo) (hmo : mo_RunE o) {p0 : Nat}  {H : Hp} {r : Int32 × Hp} (hF : B_MRunner_primary_276 N o p0  H = some r) : ab_V y_MRunner_primary { frames := fr + 1, cells := 0, slots := 0, locals := lo + 24 } (po (.returned (some (.int r.1))) r.2) 0 0 0 0 276 [some (.ref p0), none, none, none, none, none] [] (hpw H) := by
  unfold B_MRunner_primary_276 at hF
  refine ab_iconst (v := 0) d_MRunner_primary_276 (by decide) ?_
  refine ab_goto (tgt := 295) d_MRunner_primary_277 (by decide) ?_
  exact ab_iret d_MRunner_primary_295 rfl (Nat.le_refl _) (Nat.le_refl _) (by have hr := Option.some.inj hF; subst hr; exact ⟨rfl, rfl⟩)
def F_MRunner_primary (N : Nat) (o : Orc_RunE) (p0 : Nat) (H : Hp) : Option (Int32 × Hp) :=
    ck (H.sh[p0]? = some (15, 0)) <|
    bnd ((H.D p0 10)) fun x2 =>
    if x2 ≤ (0 : Int32) then
    bnd ((H.D p0 11)) fun x4 =>
    bnd ((H.D p0 11)) fun x5 =>
    bnd (H.sD p0 11 (x5 + (1 : Int32))) fun H6 =>
    rf (H6.P p0 0) fun a7 =>
    ck (H6.sh[a7]? = some (14, 0)) <|
    rf (H6.P a7 3) fun a10 =>
    ar H6 100 a10 fun n12 =>
    ck (inb x4 n12) <|
    bnd ((H6.D a10 (x4).toNatClampNeg)) fun x15 =>
    if x15 = 1 then
    bC (F_MRunner_named N p0 x4 H6) fun v18 H19 =>
    some (v18, H19)
    else if x15 = 2 then
    rf (H6.P p0 0) fun a21 =>
    ck (H6.sh[a21]? = some (14, 0)) <|
    rf (H6.P a21 6) fun a24 =>
    ar H6 100 a24 fun n26 =>
    ck (inb x4 n26) <|
    bnd ((H6.D a24 (x4).toNatClampNeg)) fun x29 =>
    some (x29, H6)
    else if x15 = 3 then
    rf (H6.P p0 0) fun a31 =>
    ck (H6.sh[a31]? = some (14, 0)) <|
    rf (H6.P a31 6) fun a34 =>
    ar H6 100 a34 fun n36 =>
    ck (inb x4 n36) <|
    bnd ((H6.D a34 (x4).toNatClampNeg)) fun x39 =>
    some (x39, H6)
    else if x15 = 40 then
    bC (o.1 p0 H6) fun v42 H43 =>
    bnd ((H43.D p0 11)) fun x44 =>
    bnd (H43.sD p0 11 (x44 + (1 : Int32))) fun H45 =>
    some (v42, H45)
    else if x15 = 231 then
    some (1, H6)
    else if x15 = 232 then
    some (0, H6)
    else if x15 = 233 then
    some ((-1), H6)
    else if x15 = 234 then
    bnd ((H6.D p0 6)) fun x50 =>
    some (x50, H6)
    else if x15 = 235 then
    rf (H6.P p0 1) fun a52 =>
    ck (H6.sh[a52]? = some (13, 0)) <|
    bnd ((H6.D a52 0)) fun x55 =>
    some (x55, H6)
    else if x15 = 240 then
    bnd ((H6.D p0 11)) fun x57 =>
    bnd (H6.sD p0 11 (x57 + (1 : Int32))) fun H58 =>
    bC (o.1 p0 H58) fun v60 H61 =>
    rf (H61.P p0 0) fun a62 =>
    ck (H61.sh[a62]? = some (14, 0)) <|
    rf (H61.P a62 8) fun a65 =>
    bnd ((H61.D p0 11)) fun x67 =>
    ar H61 100 a65 fun n68 =>
    ck (inb (x67 + (1 : Int32)) n68) <|
    bnd ((H61.D a65 ((x67 + (1 : Int32))).toNatClampNeg)) fun x71 =>
    bnd ((H61.D p0 11)) fun x72 =>
    bnd (H61.sD p0 11 (x72 + (3 : Int32))) fun H73 =>
    rf (H73.P p0 1) fun a74 =>
    ck (H73.sh[a74]? = some (13, 0)) <|
    bC (F_MWorld_has N a74 v60 x71 H73) fun v78 H79 =>
    if v78 = (0 : Int32) then
    some (0, H79)
    else
    some (1, H79)
    else bnd ((H6.D p0 11)) fun x81 =>
    bnd (H6.sD p0 11 (x81 + (1 : Int32))) fun H82 =>
    bC (o.1 p0 H82) fun v84 H85 =>
    bnd ((H85.D p0 11)) fun x86 =>
    bnd (H85.sD p0 11 (x86 + (1 : Int32))) fun H87 =>
    bnd ((H87.D p0 10)) fun x88 =>
    if (0 : Int32) < x88 then
    B_MRunner_primary_276 N o p0  H87
    else
    bnd ((H87.D p0 12)) fun x90 =>
    if x90 ≤ (0 : Int32) then
    rf (H87.P p0 0) fun a92 =>
    ck (H87.sh[a92]? = some (14, 0)) <|
    rf (H87.P a92 3) fun a95 =>
    ar H87 100 a95 fun n97 =>
    ck (inb x4 n97) <|
    bnd ((H87.D a95 (x4).toNatClampNeg)) fun x100 =>
    bC (F_MRunner_called N p0 x100 v84 H87) fun v102 H103 =>
    some (v102, H103)
    else
    B_MRunner_primary_276 N o p0  H87
    else
    some (0, H)
set_option maxRecDepth 20000 in
set_option maxHeartbeats 2000000 in
theorem m_MRunner_primary {N : Nat} {o : Orc_RunE} (hmo : mo_RunE o) {p0 : Nat} {H : Hp} {r : Int32 × Hp} (hF : F_MRunner_primary N o p0 H = some r) : Sa H r.2 := by
  unfold F_MRunner_primary at hF
  have hm := Sa.rf H
  obtain ⟨q104, hG⟩ := ck_s hF; clear hF
  obtain ⟨x105, -, hF⟩ := bnd_g hG; clear hG
  rcases ite_s hF with ⟨q_13, hG⟩ | ⟨q_13, hG⟩
  · clear hF
    obtain ⟨x107, -, hF⟩ := bnd_g hG; clear hG
    obtain ⟨x108, -, hG⟩ := bnd_g hF; clear hF
    obtain ⟨H109, eH109, hF⟩ := bnd_g hG; clear hG
    replace hm : Sa H H109 := by rw [eH109]; exact hm
    obtain ⟨a110, e111, hG⟩ := rf_s hF; clear hF
    obtain ⟨q112, hF⟩ := ck_s hG; clear hG
    obtain ⟨a113, e114, hG⟩ := rf_s hF; clear hF
    obtain ⟨n115, q116, hF⟩ := ar_s hG; clear hG
    obtain ⟨q117, hG⟩ := ck_s hF; clear hF
    obtain ⟨x118, -, hF⟩ := bnd_g hG; clear hG
    rcases ite_s hF with ⟨q_15, hG⟩ | ⟨q_15, hG⟩
    · clear hF
      obtain ⟨v121, H122, z120, hF⟩ := bC_s hG; clear hG
      replace hm : Sa H H122 := hm.tr (m_MRunner_named z120)
      have hr := Option.some.inj hF; subst hr
      exact hm
    clear hF
    rcases ite_s hG with ⟨q_17, hF⟩ | ⟨q_17, hF⟩
    · clear hG
      obtain ⟨a124, e125, hG⟩ := rf_s hF; clear hF
      obtain ⟨q126, hF⟩ := ck_s hG; clear hG
      obtain ⟨a127, e128, hG⟩ := rf_s hF; clear hF
      obtain ⟨n129, q130, hF⟩ := ar_s hG; clear hG
      obtain ⟨q131, hG⟩ := ck_s hF; clear hF
      obtain ⟨x132, -, hF⟩ := bnd_g hG; clear hG
      have hr := Option.some.inj hF; subst hr
      exact hm
    clear hG
    rcases ite_s hF with ⟨q_18, hG⟩ | ⟨q_18, hG⟩
    · clear hF
      obtain ⟨a134, e135, hF⟩ := rf_s hG; clear hG
      obtain ⟨q136, hG⟩ := ck_s hF; clear hF
      obtain ⟨a137, e138, hF⟩ := rf_s hG; clear hG
      obtain ⟨n139, q140, hG⟩ := ar_s hF; clear hF
      obtain ⟨q141, hF⟩ := ck_s hG; clear hG
      obtain ⟨x142, -, hG⟩ := bnd_g hF; clear hF
      have hr := Option.some.inj hG; subst hr
      exact hm
    clear hF
    rcases ite_s hG with ⟨q_19, hF⟩ | ⟨q_19, hF⟩
    · clear hG
      obtain ⟨v145, H146, z144, hG⟩ := bC_s hF; clear hF
      replace hm : Sa H H146 := hm.tr (hmo.1 _ _ _ z144)
      obtain ⟨x147, -, hF⟩ := bnd_g hG; clear hG
      obtain ⟨H148, eH148, hG⟩ := bnd_g hF; clear hF
      replace hm : Sa H H148 := by rw [eH148]; exact hm
      have hr := Option.some.inj hG; subst hr
      exact hm
    clear hG
    rcases ite_s hF with ⟨q_22, hG⟩ | ⟨q_22, hG⟩
    · clear hF
      have hr := Option.some.inj hG; subst hr
      exact hm
    clear hF
    rcases ite_s hG with ⟨q_23, hF⟩ | ⟨q_23, hF⟩
    · clear hG
      have hr := Option.some.inj hF; subst hr
      exact hm
    clear hG
    rcases ite_s hF with ⟨q_24, hG⟩ | ⟨q_24, hG⟩
    · clear hF
      have hr := Option.some.inj hG; subst hr
      exact hm
    clear hF
    rcases ite_s hG with ⟨q_25, hF⟩ | ⟨q_25, hF⟩
    · clear hG
      obtain ⟨x153, -, hG⟩ := bnd_g hF; clear hF
      have hr := Option.some.inj hG; subst hr
      exact hm
    clear hG
    rcases ite_s hF with ⟨q_26, hG⟩ | ⟨q_26, hG⟩
    · clear hF
      obtain ⟨a155, e156, hF⟩ := rf_s hG; clear hG
      obtain ⟨q157, hG⟩ := ck_s hF; clear hF
      obtain ⟨x158, -, hF⟩ := bnd_g hG; clear hG
      have hr := Option.some.inj hF; subst hr
      exact hm
    clear hF
    rcases ite_s hG with ⟨q_27, hF⟩ | ⟨q_27, hF⟩
    · clear hG
      obtain ⟨x160, -, hG⟩ := bnd_g hF; clear hF
      obtain ⟨H161, eH161, hF⟩ := bnd_g hG; clear hG
      replace hm : Sa H H161 := by rw [eH161]; exact hm
      obtain ⟨v163, H164, z162, hG⟩ := bC_s hF; clear hF
      replace hm : Sa H H164 := hm.tr (hmo.1 _ _ _ z162)
      obtain ⟨a165, e166, hF⟩ := rf_s hG; clear hG
      obtain ⟨q167, hG⟩ := ck_s hF; clear hF
      obtain ⟨a168, e169, hF⟩ := rf_s hG; clear hG
      obtain ⟨x170, -, hG⟩ := bnd_g hF; clear hF
      obtain ⟨n171, q172, hF⟩ := ar_s hG; clear hG
      obtain ⟨q173, hG⟩ := ck_s hF; clear hF
      obtain ⟨x174, -, hF⟩ := bnd_g hG; clear hG
      obtain ⟨x175, -, hG⟩ := bnd_g hF; clear hF
      obtain ⟨H176, eH176, hF⟩ := bnd_g hG; clear hG
      replace hm : Sa H H176 := by rw [eH176]; exact hm
      obtain ⟨a177, e178, hG⟩ := rf_s hF; clear hF
      obtain ⟨q179, hF⟩ := ck_s hG; clear hG
      obtain ⟨v181, H182, z180, hG⟩ := bC_s hF; clear hF
      replace hm : Sa H H182 := hm.tr (m_MWorld_has z180)
      rcases ite_s hG with ⟨q_32, hF⟩ | ⟨q_32, hF⟩
      · clear hG
        have hr := Option.some.inj hF; subst hr
        exact hm
      · clear hG
        have hr := Option.some.inj hF; subst hr
        exact hm
    clear hG
    obtain ⟨x184, -, hG⟩ := bnd_g hF; clear hF
    obtain ⟨H185, eH185, hF⟩ := bnd_g hG; clear hG
    replace hm : Sa H H185 := by rw [eH185]; exact hm
    obtain ⟨v187, H188, z186, hG⟩ := bC_s hF; clear hF
    replace hm : Sa H H188 := hm.tr (hmo.1 _ _ _ z186)
    obtain ⟨x189, -, hF⟩ := bnd_g hG; clear hG
    obtain ⟨H190, eH190, hG⟩ := bnd_g hF; clear hF
    replace hm : Sa H H190 := by rw [eH190]; exact hm
    obtain ⟨x191, -, hF⟩ := bnd_g hG; clear hG
    rcases ite_s hF with ⟨q_36, hG⟩ | ⟨q_36, hG⟩
    · clear hF
      exact hm.tr (mB_MRunner_primary_276 hmo hG)
    · clear hF
      obtain ⟨x193, -, hF⟩ := bnd_g hG; clear hG
      rcases ite_s hF with ⟨q_37, hG⟩ | ⟨q_37, hG⟩
      · clear hF
        obtain ⟨a195, e196, hF⟩ := rf_s hG; clear hG
        obtain ⟨q197, hG⟩ := ck_s hF; clear hF
        obtain ⟨a198, e199, hF⟩ := rf_s hG; clear hG
        obtain ⟨n200, q201, hG⟩ := ar_s hF; clear hF
        obtain ⟨q202, hF⟩ := ck_s hG; clear hG
        obtain ⟨x203, -, hG⟩ := bnd_g hF; clear hF
        obtain ⟨v205, H206, z204, hF⟩ := bC_s hG; clear hG
        replace hm : Sa H H206 := hm.tr (m_MRunner_called z204)
        have hr := Option.some.inj hF; subst hr
        exact hm
      · clear hF
        exact hm.tr (mB_MRunner_primary_276 hmo hG)
  · clear hF
    have hr := Option.some.inj hG; subst hr
    exact hm
set_option maxRecDepth 20000 in
set_option maxHeartbeats 2000000 in
theorem k_MRunner_primary {N : Nat} {o : Orc_RunE} {fr lo : Nat} (ho : ok_RunE o fr lo) (hmo : mo_RunE o) {p0 : Nat} {H : Hp} {r : Int32 × Hp} (hF : F_MRunner_primary N o p0 H = some r) : ab_M y_MRunner_primary { frames := fr + 1, cells := 0, slots := 0, locals := lo + 24 } [.ref p0] (hpw H) (po (.returned (some (.int r.1))) r.2) := by
  unfold F_MRunner_primary at hF
  refine ab_of2 (lv := [some (.ref p0), none, none, none, none, none]) 5 rfl rfl (Nat.le_of_ble_eq_true rfl) ?_
  refine ab_aload_n d_MRunner_primary_0 rfl rfl rfl ?_
  obtain ⟨q1, hG⟩ := ck_s hF; clear hF
  refine hp_getI (f := 10) d_MRunner_primary_1 q1 (by decide) rfl (by decide) (k9 193 rfl rfl) rfl ?_
  refine ab_topi (fun x2 ex2 => ?_)
  replace hG := bnd_s ex2 hG
  refine ab_if_le (tgt := 9) d_MRunner_primary_4 (by decide) (fun q3 => ?_) (fun q3 => ?_)
  · rw [if_pos q3] at hG
    refine ab_aload_n d_MRunner_primary_9 rfl rfl rfl ?_
    refine hp_getI (f := 11) d_MRunner_primary_10 q1 (by decide) rfl (by decide) (k9 194 rfl rfl) rfl ?_
    refine ab_topi (fun x4 ex4 => ?_)
    replace hG := bnd_s ex4 hG
    refine ab_istore_n (lv' := [some (.ref p0), some (.int x4), none, none, none, none]) d_MRunner_primary_13 rfl (by decide) rfl ?_
    refine ab_aload_n d_MRunner_primary_14 rfl rfl rfl ?_
    refine ab_dup d_MRunner_primary_15 rfl ?_
    refine hp_getI (f := 11) d_MRunner_primary_16 q1 (by decide) rfl (by decide) (k9 194 rfl rfl) rfl ?_
    refine ab_topi (fun x5 ex5 => ?_)
    replace hG := bnd_s ex5 hG
    refine ab_iconst (v := 1) d_MRunner_primary_19 (by decide) ?_
    refine ab_iadd d_MRunner_primary_20 ?_
    refine hp_putI (v := x5 + (1 : Int32)) (f := 11) d_MRunner_primary_21 q1 (by decide) rfl (by decide) (k9 194 rfl rfl) rfl rfl (fun _ => rfl) (fun _ => rfl) rfl ?_
    refine hp_gen (fun H6 eH6 => ?_)
    replace hG := bnd_s eH6 hG
    have s_1 : Sa H H6 := by rw [eH6]; exact Sa.rf _
    refine ab_aload_n d_MRunner_primary_24 rfl rfl rfl ?_
    obtain ⟨a7, e8, hF⟩ := rf_s hG; clear hG
    refine hp_getR (f := 0) d_MRunner_primary_25 (by rw [(s_1).1]; exact q1) (by decide) rfl (by decide) (k9 183 rfl rfl) rfl e8 ?_
    obtain ⟨q9, hG⟩ := ck_s hF; clear hF
    rw [(s_1).1] at q9
    obtain ⟨a10, e11, hF⟩ := rf_s hG; clear hG
    refine hp_getRN (f := 3) d_MRunner_primary_28 (by rw [(s_1).1]; exact q9) (by decide) rfl (by decide) (k8 163 rfl rfl) rfl e11 ?_
    refine ab_iload_n d_MRunner_primary_31 rfl rfl ?_
    obtain ⟨n12, q13, hG⟩ := ar_s hF; clear hF
    rw [(s_1).1] at q13
    obtain ⟨q14, hF⟩ := ck_s hG; clear hG
    refine hp_iald d_MRunner_primary_32 tI (by rw [(s_1).1]; exact q13) q14 ?_
    refine ab_topi (fun x15 ex15 => ?_)
    replace hF := bnd_s ex15 hF
    by_cases t16 : x15 = 1
    · rw [if_pos t16] at hF
      refine ab_lookup (off := 120) (tgt := 153) d_MRunner_primary_33 (by decide) (by rw [t16]; decide) (by decide) ?_
      refine ab_aload_n d_MRunner_primary_153 rfl rfl rfl ?_
      refine ab_iload_n d_MRunner_primary_154 rfl rfl ?_
      obtain ⟨v18, H19, z17, hG⟩ := bC_s hF; clear hF
      refine hp_callV_a (v := .int v18) (H1 := H19) (As := [.int x4]) (rest := []) d_MRunner_primary_155 (k_MRunner_named z17) (ab_mkC s_MRunner_named (show 3 + 1 ≤ fr + 1 from by have := ho.1; omega) (show 8 + (5 + 11) + 65 ≤ lo + 24 from by have := ho.2.1; omega) (Nat.le_refl 0) (Nat.le_refl 0)) (k12 42 rfl rfl) i_MRunner_named v_MRunner_named (by rw [(s_1).1]; exact q1) (by decide) rfl rfl (Nat.le_of_ble_eq_true rfl) ?_
      have s_2 : Sa H H19 := (s_1).tr (m_MRunner_named z17)
      exact ab_iret d_MRunner_primary_158 rfl (Nat.le_refl _) (Nat.le_refl _) (by have hr := Option.some.inj hG; subst hr; exact ⟨rfl, rfl⟩)
    rw [if_neg t16] at hF
    have ut16 : ¬ (1 : Int) = (x15).toInt := fun z => t16 (Int32.toInt_inj.mp (z.symm.trans (by decide)))
    by_cases t20 : x15 = 2
    · rw [if_pos t20] at hF
      refine ab_lookup (off := 91) (tgt := 124) d_MRunner_primary_33 (by decide) (by rw [t20]; decide) (by decide) ?_
      refine ab_aload_n d_MRunner_primary_124 rfl rfl rfl ?_
      obtain ⟨a21, e22, hG⟩ := rf_s hF; clear hF
      refine hp_getR (f := 0) d_MRunner_primary_125 (by rw [(s_1).1]; exact q1) (by decide) rfl (by decide) (k9 183 rfl rfl) rfl e22 ?_
      obtain ⟨q23, hF⟩ := ck_s hG; clear hG
      rw [(s_1).1] at q23
      obtain ⟨a24, e25, hG⟩ := rf_s hF; clear hF
      refine hp_getRN (f := 6) d_MRunner_primary_128 (by rw [(s_1).1]; exact q23) (by decide) rfl (by decide) (k8 167 rfl rfl) rfl e25 ?_
      refine ab_iload_n d_MRunner_primary_131 rfl rfl ?_
      obtain ⟨n26, q27, hF⟩ := ar_s hG; clear hG
      rw [(s_1).1] at q27
      obtain ⟨q28, hG⟩ := ck_s hF; clear hF
      refine hp_iald d_MRunner_primary_132 tI (by rw [(s_1).1]; exact q27) q28 ?_
      refine ab_topi (fun x29 ex29 => ?_)
      replace hG := bnd_s ex29 hG
      exact ab_iret d_MRunner_primary_133 rfl (Nat.le_refl _) (Nat.le_refl _) (by have hr := Option.some.inj hG; subst hr; exact ⟨rfl, rfl⟩)
    rw [if_neg t20] at hF
    have ut20 : ¬ (2 : Int) = (x15).toInt := fun z => t20 (Int32.toInt_inj.mp (z.symm.trans (by decide)))
    by_cases t30 : x15 = 3
    · rw [if_pos t30] at hF
      refine ab_lookup (off := 91) (tgt := 124) d_MRunner_primary_33 (by decide) (by rw [t30]; decide) (by decide) ?_
      refine ab_aload_n d_MRunner_primary_124 rfl rfl rfl ?_
      obtain ⟨a31, e32, hG⟩ := rf_s hF; clear hF
      refine hp_getR (f := 0) d_MRunner_primary_125 (by rw [(s_1).1]; exact q1) (by decide) rfl (by decide) (k9 183 rfl rfl) rfl e32 ?_
      obtain ⟨q33, hF⟩ := ck_s hG; clear hG
      rw [(s_1).1] at q33
      obtain ⟨a34, e35, hG⟩ := rf_s hF; clear hF
      refine hp_getRN (f := 6) d_MRunner_primary_128 (by rw [(s_1).1]; exact q33) (by decide) rfl (by decide) (k8 167 rfl rfl) rfl e35 ?_
      refine ab_iload_n d_MRunner_primary_131 rfl rfl ?_
      obtain ⟨n36, q37, hF⟩ := ar_s hG; clear hG
      rw [(s_1).1] at q37
      obtain ⟨q38, hG⟩ := ck_s hF; clear hF
      refine hp_iald d_MRunner_primary_132 tI (by rw [(s_1).1]; exact q37) q38 ?_
      refine ab_topi (fun x39 ex39 => ?_)
      replace hG := bnd_s ex39 hG
      exact ab_iret d_MRunner_primary_133 rfl (Nat.le_refl _) (Nat.le_refl _) (by have hr := Option.some.inj hG; subst hr; exact ⟨rfl, rfl⟩)
    rw [if_neg t30] at hF
    have ut30 : ¬ (3 : Int) = (x15).toInt := fun z => t30 (Int32.toInt_inj.mp (z.symm.trans (by decide)))
    by_cases t40 : x15 = 40
    · rw [if_pos t40] at hF
      refine ab_lookup (off := 126) (tgt := 159) d_MRunner_primary_33 (by decide) (by rw [t40]; decide) (by decide) ?_
      refine ab_aload_n d_MRunner_primary_159 rfl rfl rfl ?_
      obtain ⟨v42, H43, z41, hG⟩ := bC_s hF; clear hF
      refine hp_callV_a (v := .int v42) (H1 := H43) (As := []) (rest := []) d_MRunner_primary_160 (ho.2.2.1 _ _ _ z41) (ab_mkC s_MRunner_value (show fr + 1 ≤ fr + 1 from by have := ho.1; omega) (show 8 + (3 + 11) + lo ≤ lo + 24 from by have := ho.2.1; omega) (Nat.le_refl 0) (Nat.le_refl 0)) (k12 10 rfl rfl) i_MRunner_value v_MRunner_value (by rw [(s_1).1]; exact q1) (by decide) rfl rfl (Nat.le_of_ble_eq_true rfl) ?_
      have s_3 : Sa H H43 := (s_1).tr (hmo.1 _ _ _ z41)
      refine ab_istore_n (lv' := [some (.ref p0), some (.int x4), some (.int v42), none, none, none]) d_MRunner_primary_163 rfl (by decide) rfl ?_
      refine ab_aload_n d_MRunner_primary_164 rfl rfl rfl ?_
      refine ab_dup d_MRunner_primary_165 rfl ?_
      refine hp_getI (f := 11) d_MRunner_primary_166 (by rw [(s_3).1]; exact q1) (by decide) rfl (by decide) (k9 194 rfl rfl) rfl ?_
      refine ab_topi (fun x44 ex44 => ?_)
      replace hG := bnd_s ex44 hG
      refine ab_iconst (v := 1) d_MRunner_primary_169 (by decide) ?_
      refine ab_iadd d_MRunner_primary_170 ?_
      refine hp_putI (v := x44 + (1 : Int32)) (f := 11) d_MRunner_primary_171 (by rw [(s_3).1]; exact q1) (by decide) rfl (by decide) (k9 194 rfl rfl) rfl rfl (fun _ => rfl) (fun _ => rfl) rfl ?_
      refine hp_gen (fun H45 eH45 => ?_)
      replace hG := bnd_s eH45 hG
      have s_4 : Sa H H45 := by rw [eH45]; exact s_3
      refine ab_iload_n d_MRunner_primary_174 rfl rfl ?_
      exact ab_iret d_MRunner_primary_175 rfl (Nat.le_refl _) (Nat.le_refl _) (by have hr := Option.some.inj hG; subst hr; exact ⟨rfl, rfl⟩)
    rw [if_neg t40] at hF
    have ut40 : ¬ (40 : Int) = (x15).toInt := fun z => t40 (Int32.toInt_inj.mp (z.symm.trans (by decide)))
    by_cases t46 : x15 = 231
    · rw [if_pos t46] at hF
      refine ab_lookup (off := 101) (tgt := 134) d_MRunner_primary_33 (by decide) (by rw [t46]; decide) (by decide) ?_
      refine ab_iconst (v := 1) d_MRunner_primary_134 (by decide) ?_
      exact ab_iret d_MRunner_primary_135 rfl (Nat.le_refl _) (Nat.le_refl _) (by have hr := Option.some.inj hF; subst hr; exact ⟨rfl, rfl⟩)
    rw [if_neg t46] at hF
    have ut46 : ¬ (231 : Int) = (x15).toInt := fun z => t46 (Int32.toInt_inj.mp (z.symm.trans (by decide)))
    by_cases t47 : x15 = 232
    · rw [if_pos t47] at hF
      refine ab_lookup (off := 103) (tgt := 136) d_MRunner_primary_33 (by decide) (by rw [t47]; decide) (by decide) ?_
      refine ab_iconst (v := 0) d_MRunner_primary_136 (by decide) ?_
      exact ab_iret d_MRunner_primary_137 rfl (Nat.le_refl _) (Nat.le_refl _) (by have hr := Option.some.inj hF; subst hr; exact ⟨rfl, rfl⟩)
    rw [if_neg t47] at hF
    have ut47 : ¬ (232 : Int) = (x15).toInt := fun z => t47 (Int32.toInt_inj.mp (z.symm.trans (by decide)))
    by_cases t48 : x15 = 233
    · rw [if_pos t48] at hF
      refine ab_lookup (off := 105) (tgt := 138) d_MRunner_primary_33 (by decide) (by rw [t48]; decide) (by decide) ?_
      refine ab_iconst (v := (-1)) d_MRunner_primary_138 (by decide) ?_
      exact ab_iret d_MRunner_primary_139 rfl (Nat.le_refl _) (Nat.le_refl _) (by have hr := Option.some.inj hF; subst hr; exact ⟨rfl, rfl⟩)
    rw [if_neg t48] at hF
    have ut48 : ¬ (233 : Int) = (x15).toInt := fun z => t48 (Int32.toInt_inj.mp (z.symm.trans (by decide)))
    by_cases t49 : x15 = 234
    · rw [if_pos t49] at hF
      refine ab_lookup (off := 107) (tgt := 140) d_MRunner_primary_33 (by decide) (by rw [t49]; decide) (by decide) ?_
      refine ab_aload_n d_MRunner_primary_140 rfl rfl rfl ?_
      refine hp_getI (f := 6) d_MRunner_primary_141 (by rw [(s_1).1]; exact q1) (by decide) rfl (by decide) (k9 189 rfl rfl) rfl ?_
      refine ab_topi (fun x50 ex50 => ?_)
      replace hF := bnd_s ex50 hF
      exact ab_iret d_MRunner_primary_144 rfl (Nat.le_refl _) (Nat.le_refl _) (by have hr := Option.some.inj hF; subst hr; exact ⟨rfl, rfl⟩)
    rw [if_neg t49] at hF
    have ut49 : ¬ (234 : Int) = (x15).toInt := fun z => t49 (Int32.toInt_inj.mp (z.symm.trans (by decide)))
    by_cases t51 : x15 = 235
    · rw [if_pos t51] at hF
      refine ab_lookup (off := 112) (tgt := 145) d_MRunner_primary_33 (by decide) (by rw [t51]; decide) (by decide) ?_
      refine ab_aload_n d_MRunner_primary_145 rfl rfl rfl ?_
      obtain ⟨a52, e53, hG⟩ := rf_s hF; clear hF
      refine hp_getR (f := 1) d_MRunner_primary_146 (by rw [(s_1).1]; exact q1) (by decide) rfl (by decide) (k9 184 rfl rfl) rfl e53 ?_
      obtain ⟨q54, hF⟩ := ck_s hG; clear hG
      rw [(s_1).1] at q54
      refine hp_getIN (f := 0) d_MRunner_primary_149 (by rw [(s_1).1]; exact q54) (by decide) rfl (by decide) (k9 88 rfl rfl) rfl ?_
      refine ab_topi (fun x55 ex55 => ?_)
      replace hF := bnd_s ex55 hF
      exact ab_iret d_MRunner_primary_152 rfl (Nat.le_refl _) (Nat.le_refl _) (by have hr := Option.some.inj hF; subst hr; exact ⟨rfl, rfl⟩)
    rw [if_neg t51] at hF
    have ut51 : ¬ (235 : Int) = (x15).toInt := fun z => t51 (Int32.toInt_inj.mp (z.symm.trans (by decide)))
    by_cases t56 : x15 = 240
    · rw [if_pos t56] at hF
      refine ab_lookup (off := 143) (tgt := 176) d_MRunner_primary_33 (by decide) (by rw [t56]; decide) (by decide) ?_
      refine ab_aload_n d_MRunner_primary_176 rfl rfl rfl ?_
      refine ab_dup d_MRunner_primary_177 rfl ?_
      refine hp_getI (f := 11) d_MRunner_primary_178 (by rw [(s_1).1]; exact q1) (by decide) rfl (by decide) (k9 194 rfl rfl) rfl ?_
      refine ab_topi (fun x57 ex57 => ?_)
      replace hF := bnd_s ex57 hF
      refine ab_iconst (v := 1) d_MRunner_primary_181 (by decide) ?_
      refine ab_iadd d_MRunner_primary_182 ?_
      refine hp_putI (v := x57 + (1 : Int32)) (f := 11) d_MRunner_primary_183 (by rw [(s_1).1]; exact q1) (by decide) rfl (by decide) (k9 194 rfl rfl) rfl rfl (fun _ => rfl) (fun _ => rfl) rfl ?_
      refine hp_gen (fun H58 eH58 => ?_)
      replace hF := bnd_s eH58 hF
      have s_5 : Sa H H58 := by rw [eH58]; exact s_1
      refine ab_aload_n d_MRunner_primary_186 rfl rfl rfl ?_
      obtain ⟨v60, H61, z59, hG⟩ := bC_s hF; clear hF
      refine hp_callV_a (v := .int v60) (H1 := H61) (As := []) (rest := []) d_MRunner_primary_187 (ho.2.2.1 _ _ _ z59) (ab_mkC s_MRunner_value (show fr + 1 ≤ fr + 1 from by have := ho.1; omega) (show 8 + (3 + 11) + lo ≤ lo + 24 from by have := ho.2.1; omega) (Nat.le_refl 0) (Nat.le_refl 0)) (k12 10 rfl rfl) i_MRunner_value v_MRunner_value (by rw [(s_5).1]; exact q1) (by decide) rfl rfl (Nat.le_of_ble_eq_true rfl) ?_
      have s_6 : Sa H H61 := (s_5).tr (hmo.1 _ _ _ z59)
      refine ab_istore_n (lv' := [some (.ref p0), some (.int x4), none, some (.int v60), none, none]) d_MRunner_primary_190 rfl (by decide) rfl ?_
      refine ab_aload_n d_MRunner_primary_191 rfl rfl rfl ?_
      obtain ⟨a62, e63, hF⟩ := rf_s hG; clear hG
      refine hp_getR (f := 0) d_MRunner_primary_192 (by rw [(s_6).1]; exact q1) (by decide) rfl (by decide) (k9 183 rfl rfl) rfl e63 ?_
      obtain ⟨q64, hG⟩ := ck_s hF; clear hF
      rw [(s_6).1] at q64
      obtain ⟨a65, e66, hF⟩ := rf_s hG; clear hG
      refine hp_getRN (f := 8) d_MRunner_primary_195 (by rw [(s_6).1]; exact q64) (by decide) rfl (by decide) (k8 170 rfl rfl) rfl e66 ?_
      refine ab_aload_n d_MRunner_primary_198 rfl rfl rfl ?_
      refine hp_getI (f := 11) d_MRunner_primary_199 (by rw [(s_6).1]; exact q1) (by decide) rfl (by decide) (k9 194 rfl rfl) rfl ?_
      refine ab_topi (fun x67 ex67 => ?_)
      replace hF := bnd_s ex67 hF
      refine ab_iconst (v := 1) d_MRunner_primary_202 (by decide) ?_
      refine ab_iadd d_MRunner_primary_203 ?_
      obtain ⟨n68, q69, hG⟩ := ar_s hF; clear hF
      rw [(s_6).1] at q69
      obtain ⟨q70, hF⟩ := ck_s hG; clear hG
      refine hp_iald d_MRunner_primary_204 tI (by rw [(s_6).1]; exact q69) q70 ?_
      refine ab_topi (fun x71 ex71 => ?_)
      replace hF := bnd_s ex71 hF
      refine ab_istore (lv' := [some (.ref p0), some (.int x4), none, some (.int v60), some (.int x71), none]) d_MRunner_primary_205 (by decide) rfl ?_
      refine ab_aload_n d_MRunner_primary_207 rfl rfl rfl ?_
      refine ab_dup d_MRunner_primary_208 rfl ?_
      refine hp_getI (f := 11) d_MRunner_primary_209 (by rw [(s_6).1]; exact q1) (by decide) rfl (by decide) (k9 194 rfl rfl) rfl ?_
      refine ab_topi (fun x72 ex72 => ?_)
      replace hF := bnd_s ex72 hF
      refine ab_iconst (v := 3) d_MRunner_primary_212 (by decide) ?_
      refine ab_iadd d_MRunner_primary_213 ?_
      refine hp_putI (v := x72 + (3 : Int32)) (f := 11) d_MRunner_primary_214 (by rw [(s_6).1]; exact q1) (by decide) rfl (by decide) (k9 194 rfl rfl) rfl rfl (fun _ => rfl) (fun _ => rfl) rfl ?_
      refine hp_gen (fun H73 eH73 => ?_)
      replace hF := bnd_s eH73 hF
      have s_7 : Sa H H73 := by rw [eH73]; exact s_6
      refine ab_aload_n d_MRunner_primary_217 rfl rfl rfl ?_
      obtain ⟨a74, e75, hG⟩ := rf_s hF; clear hF
      refine hp_getR (f := 1) d_MRunner_primary_218 (by rw [(s_7).1]; exact q1) (by decide) rfl (by decide) (k9 184 rfl rfl) rfl e75 ?_
      refine ab_iload_n d_MRunner_primary_221 rfl rfl ?_
      refine ab_iload d_MRunner_primary_222 rfl ?_
      obtain ⟨q76, hF⟩ := ck_s hG; clear hG
      rw [(s_7).1] at q76
      obtain ⟨v78, H79, z77, hG⟩ := bC_s hF; clear hF
      refine hp_callV_a (v := .int v78) (H1 := H79) (As := [.int v60, .int x71]) (rest := []) d_MRunner_primary_224 (k_MWorld_has z77) (ab_mkC s_MWorld_has (show 2 + 1 ≤ fr + 1 from by have := ho.1; omega) (show 8 + (3 + 11) + 43 ≤ lo + 24 from by have := ho.2.1; omega) (Nat.le_refl 0) (Nat.le_refl 0)) (k12 46 rfl rfl) i_MWorld_has v_MWorld_has (by rw [(s_7).1]; exact q76) (by decide) rfl rfl (Nat.le_of_ble_eq_true rfl) ?_
      have s_8 : Sa H H79 := (s_7).tr (m_MWorld_has z77)
      refine ab_if_eq (tgt := 234) d_MRunner_primary_227 (by decide) (fun q80 => ?_) (fun q80 => ?_)
      · rw [if_pos q80] at hG
        refine ab_iconst (v := 0) d_MRunner_primary_234 (by decide) ?_
        exact ab_iret d_MRunner_primary_235 rfl (Nat.le_refl _) (Nat.le_refl _) (by have hr := Option.some.inj hG; subst hr; exact ⟨rfl, rfl⟩)
      · rw [if_neg q80] at hG
        refine ab_iconst (v := 1) d_MRunner_primary_230 (by decide) ?_
        refine ab_goto (tgt := 235) d_MRunner_primary_231 (by decide) ?_
        exact ab_iret d_MRunner_primary_235 rfl (Nat.le_refl _) (Nat.le_refl _) (by have hr := Option.some.inj hG; subst hr; exact ⟨rfl, rfl⟩)
    rw [if_neg t56] at hF
    have ut56 : ¬ (240 : Int) = (x15).toInt := fun z => t56 (Int32.toInt_inj.mp (z.symm.trans (by decide)))
    refine ab_lookup (off := 203) (tgt := 236) d_MRunner_primary_33 (by decide) (by simp [Op.lookupswitch.offset, ut16, ut20, ut30, ut40, ut46, ut47, ut48, ut49, ut51, ut56]) (by decide) ?_
    refine ab_aload_n d_MRunner_primary_236 rfl rfl rfl ?_
    refine ab_dup d_MRunner_primary_237 rfl ?_
    refine hp_getI (f := 11) d_MRunner_primary_238 (by rw [(s_1).1]; exact q1) (by decide) rfl (by decide) (k9 194 rfl rfl) rfl ?_
    refine ab_topi (fun x81 ex81 => ?_)
    replace hF := bnd_s ex81 hF
    refine ab_iconst (v := 1) d_MRunner_primary_241 (by decide) ?_
    refine ab_iadd d_MRunner_primary_242 ?_
    refine hp_putI (v := x81 + (1 : Int32)) (f := 11) d_MRunner_primary_243 (by rw [(s_1).1]; exact q1) (by decide) rfl (by decide) (k9 194 rfl rfl) rfl rfl (fun _ => rfl) (fun _ => rfl) rfl ?_
    refine hp_gen (fun H82 eH82 => ?_)
    replace hF := bnd_s eH82 hF
    have s_9 : Sa H H82 := by rw [eH82]; exact s_1
    refine ab_aload_n d_MRunner_primary_246 rfl rfl rfl ?_
    obtain ⟨v84, H85, z83, hG⟩ := bC_s hF; clear hF
    refine hp_callV_a (v := .int v84) (H1 := H85) (As := []) (rest := []) d_MRunner_primary_247 (ho.2.2.1 _ _ _ z83) (ab_mkC s_MRunner_value (show fr + 1 ≤ fr + 1 from by have := ho.1; omega) (show 8 + (3 + 11) + lo ≤ lo + 24 from by have := ho.2.1; omega) (Nat.le_refl 0) (Nat.le_refl 0)) (k12 10 rfl rfl) i_MRunner_value v_MRunner_value (by rw [(s_9).1]; exact q1) (by decide) rfl rfl (Nat.le_of_ble_eq_true rfl) ?_
    have s_10 : Sa H H85 := (s_9).tr (hmo.1 _ _ _ z83)
    refine ab_istore (lv' := [some (.ref p0), some (.int x4), none, none, none, some (.int v84)]) d_MRunner_primary_250 (by decide) rfl ?_
    refine ab_aload_n d_MRunner_primary_252 rfl rfl rfl ?_
    refine ab_dup d_MRunner_primary_253 rfl ?_
    refine hp_getI (f := 11) d_MRunner_primary_254 (by rw [(s_10).1]; exact q1) (by decide) rfl (by decide) (k9 194 rfl rfl) rfl ?_
    refine ab_topi (fun x86 ex86 => ?_)
    replace hG := bnd_s ex86 hG
    refine ab_iconst (v := 1) d_MRunner_primary_257 (by decide) ?_
    refine ab_iadd d_MRunner_primary_258 ?_
    refine hp_putI (v := x86 + (1 : Int32)) (f := 11) d_MRunner_primary_259 (by rw [(s_10).1]; exact q1) (by decide) rfl (by decide) (k9 194 rfl rfl) rfl rfl (fun _ => rfl) (fun _ => rfl) rfl ?_
    refine hp_gen (fun H87 eH87 => ?_)
    replace hG := bnd_s eH87 hG
    have s_11 : Sa H H87 := by rw [eH87]; exact s_10
    refine ab_aload_n d_MRunner_primary_262 rfl rfl rfl ?_
    refine hp_getI (f := 10) d_MRunner_primary_263 (by rw [(s_11).1]; exact q1) (by decide) rfl (by decide) (k9 193 rfl rfl) rfl ?_
    refine ab_topi (fun x88 ex88 => ?_)
    replace hG := bnd_s ex88 hG
    refine ab_if_gt (tgt := 276) d_MRunner_primary_266 (by decide) (fun q89 => ?_) (fun q89 => ?_)
    · rw [if_pos q89] at hG
      refine ab_le (lv' := [some (.ref p0), none, none, none, none, none]) ⟨rfl, trivial⟩ ?_
      exact kB_MRunner_primary_276 ho hmo hG
    · rw [if_neg q89] at hG
      refine ab_aload_n d_MRunner_primary_269 rfl rfl rfl ?_
      refine hp_getI (f := 12) d_MRunner_primary_270 (by rw [(s_11).1]; exact q1) (by decide) rfl (by decide) (k9 195 rfl rfl) rfl ?_
      refine ab_topi (fun x90 ex90 => ?_)
      replace hG := bnd_s ex90 hG
      refine ab_if_le (tgt := 280) d_MRunner_primary_273 (by decide) (fun q91 => ?_) (fun q91 => ?_)
      · rw [if_pos q91] at hG
        refine ab_aload_n d_MRunner_primary_280 rfl rfl rfl ?_
        refine ab_aload_n d_MRunner_primary_281 rfl rfl rfl ?_
        obtain ⟨a92, e93, hF⟩ := rf_s hG; clear hG
        refine hp_getR (f := 0) d_MRunner_primary_282 (by rw [(s_11).1]; exact q1) (by decide) rfl (by decide) (k9 183 rfl rfl) rfl e93 ?_
        obtain ⟨q94, hG⟩ := ck_s hF; clear hF
        rw [(s_11).1] at q94
        obtain ⟨a95, e96, hF⟩ := rf_s hG; clear hG
        refine hp_getRN (f := 3) d_MRunner_primary_285 (by rw [(s_11).1]; exact q94) (by decide) rfl (by decide) (k8 163 rfl rfl) rfl e96 ?_
        refine ab_iload_n d_MRunner_primary_288 rfl rfl ?_
        obtain ⟨n97, q98, hG⟩ := ar_s hF; clear hF
        rw [(s_11).1] at q98
        obtain ⟨q99, hF⟩ := ck_s hG; clear hG
        refine hp_iald d_MRunner_primary_289 tI (by rw [(s_11).1]; exact q98) q99 ?_
        refine ab_topi (fun x100 ex100 => ?_)
        replace hF := bnd_s ex100 hF
        refine ab_iload d_MRunner_primary_290 rfl ?_
        obtain ⟨v102, H103, z101, hG⟩ := bC_s hF; clear hF
        refine hp_callV_a (v := .int v102) (H1 := H103) (As := [.int x100, .int v84]) (rest := []) d_MRunner_primary_292 (k_MRunner_called z101) (ab_mkC s_MRunner_called (show 2 + 1 ≤ fr + 1 from by have := ho.1; omega) (show 8 + (3 + 11) + 48 ≤ lo + 24 from by have := ho.2.1; omega) (Nat.le_refl 0) (Nat.le_refl 0)) (k12 55 rfl rfl) i_MRunner_called v_MRunner_called (by rw [(s_11).1]; exact q1) (by decide) rfl rfl (Nat.le_of_ble_eq_true rfl) ?_
        have s_12 : Sa H H103 := (s_11).tr (m_MRunner_called z101)
        exact ab_iret d_MRunner_primary_295 rfl (Nat.le_refl _) (Nat.le_refl _) (by have hr := Option.some.inj hG; subst hr; exact ⟨rfl, rfl⟩)
      · rw [if_neg q91] at hG
        refine ab_le (lv' := [some (.ref p0), none, none, none, none, none]) ⟨rfl, trivial⟩ ?_
        exact kB_MRunner_primary_276 ho hmo hG
  · rw [if_neg q3] at hG
    refine ab_iconst (v := 0) d_MRunner_primary_7 (by decide) ?_
    exact ab_iret d_MRunner_primary_8 rfl (Nat.le_refl _) (Nat.le_refl _) (by have hr := Option.some.inj hG; subst hr; exact ⟨rfl, rfl⟩)
def B_MRunner_unary_23 (N : Nat) (o : Orc_RunE) (p0 : Nat)  (H : Hp) : Option (Int32 × Hp) :=
    ck (H.sh[p0]? = some (15, 0)) <|
    bnd ((H.D p0 11)) fun x7 =>
    bnd ((H.D p0 11)) fun x8 =>
    bnd (H.sD p0 11 (x8 + (1 : Int32))) fun H9 =>
    bC (o.2 p0 H9) fun v11 H12 =>
    rf (H12.P p0 0) fun a13 =>
    ck (H12.sh[a13]? = some (14, 0)) <|
    rf (H12.P a13 3) fun a16 =>
    ar H12 100 a16 fun n18 =>
    ck (inb x7 n18) <|
    bnd ((H12.D a16 (x7).toNatClampNeg)) fun x21 =>
    if x21 = (33 : Int32) then
    some ((1 : Int32) - v11, H12)
    else
    rf (H12.P p0 0) fun a23 =>
    ck (H12.sh[a23]? = some (14, 0)) <|
    rf (H12.P a23 8) fun a26 =>
    ar H12 100 a26 fun n28 =>
    ck (inb x7 n28) <|
    bnd ((H12.D a26 (x7).toNatClampNeg)) fun x31 =>
    bC (F_M_held N x31 (-((v11 : Int32).toInt64)) H12) fun v33 H34 =>
    some (v33, H34)
set_option maxRecDepth 20000 in
set_option maxHeartbeats 2000000 in
theorem mB_MRunner_unary_23 {N : Nat} {o : Orc_RunE} (hmo : mo_RunE o) {p0 : Nat}  {H : Hp} {r : Int32 × Hp} (hF : B_MRunner_unary_23 N o p0  H = some r) : Sa H r.2 := by
  unfold B_MRunner_unary_23 at hF
  have hm := Sa.rf H
  obtain ⟨q35, hG⟩ := ck_s hF; clear hF
  obtain ⟨x36, -, hF⟩ := bnd_g hG; clear hG
  obtain ⟨x37, -, hG⟩ := bnd_g hF; clear hF
  obtain ⟨H38, eH38, hF⟩ := bnd_g hG; clear hG
  replace hm : Sa H H38 := by rw [eH38]; exact hm
  obtain ⟨v40, H41, z39, hG⟩ := bC_s hF; clear hF
  replace hm : Sa H H41 := hm.tr (hmo.2 _ _ _ z39)
  obtain ⟨a42, e43, hF⟩ := rf_s hG; clear hG
  obtain ⟨q44, hG⟩ := ck_s hF; clear hF
  obtain ⟨a45, e46, hF⟩ := rf_s hG; clear hG
  obtain ⟨n47, q48, hG⟩ := ar_s hF; clear hF
  obtain ⟨q49, hF⟩ := ck_s hG; clear hG
  obtain ⟨x50, -, hG⟩ := bnd_g hF; clear hF
  rcases ite_s hG with ⟨q_7, hF⟩ | ⟨q_7, hF⟩
  · clear hG
    have hr := Option.some.inj hF; subst hr
    exact hm
  · clear hG
    obtain ⟨a52, e53, hG⟩ := rf_s hF; clear hF
    obtain ⟨q54, hF⟩ := ck_s hG; clear hG
    obtain ⟨a55, e56, hG⟩ := rf_s hF; clear hF
    obtain ⟨n57, q58, hF⟩ := ar_s hG; clear hG
    obtain ⟨q59, hG⟩ := ck_s hF; clear hF
    obtain ⟨x60, -, hF⟩ := bnd_g hG; clear hG
    obtain ⟨v62, H63, z61, hG⟩ := bC_s hF; clear hF
    replace hm : Sa H H63 := hm.tr (m_M_held z61)
    have hr := Option.some.inj hG; subst hr
    exact hm
set_option maxRecDepth 20000 in
set_option maxHeartbeats 2000000 in
theorem kB_MRunner_unary_23 {N : Nat} {o : Orc_RunE} {fr lo : Nat} (ho : ok_RunE o fr lo) (hmo : mo_RunE o) {p0 : Nat}  {H : Hp} {r : Int32 × Hp} (hF : B_MRunner_unary_23 N o p0  H = some r) : ab_V y_MRunner_unary { frames := fr + 5, cells := 0, slots := 0, locals := lo + 123 } (po (.returned (some (.int r.1))) r.2) 0 0 0 0 23 [some (.ref p0), none, none] [] (hpw H) := by
  unfold B_MRunner_unary_23 at hF
  refine ab_aload_n d_MRunner_unary_23 rfl rfl rfl ?_
  obtain ⟨q6, hG⟩ := ck_s hF; clear hF
  refine hp_getI (f := 11) d_MRunner_unary_24 q6 (by decide) rfl (by decide) (k9 194 rfl rfl) rfl ?_
  refine ab_topi (fun x7 ex7 => ?_)
  replace hG := bnd_s ex7 hG
  refine ab_istore_n (lv' := [some (.ref p0), some (.int x7), none]) d_MRunner_unary_27 rfl (by decide) rfl ?_
  refine ab_aload_n d_MRunner_unary_28 rfl rfl rfl ?_
  refine ab_dup d_MRunner_unary_29 rfl ?_
  refine hp_getI (f := 11) d_MRunner_unary_30 q6 (by decide) rfl (by decide) (k9 194 rfl rfl) rfl ?_
  refine ab_topi (fun x8 ex8 => ?_)
  replace hG := bnd_s ex8 hG
  refine ab_iconst (v := 1) d_MRunner_unary_33 (by decide) ?_
  refine ab_iadd d_MRunner_unary_34 ?_
  refine hp_putI (v := x8 + (1 : Int32)) (f := 11) d_MRunner_unary_35 q6 (by decide) rfl (by decide) (k9 194 rfl rfl) rfl rfl (fun _ => rfl) (fun _ => rfl) rfl ?_
  refine hp_gen (fun H9 eH9 => ?_)
  replace hG := bnd_s eH9 hG
  have s_2 : Sa H H9 := by rw [eH9]; exact Sa.rf _
  refine ab_aload_n d_MRunner_unary_38 rfl rfl rfl ?_
  obtain ⟨v11, H12, z10, hF⟩ := bC_s hG; clear hG
  refine hp_callV_a (v := .int v11) (H1 := H12) (As := []) (rest := []) d_MRunner_unary_39 (ho.2.2.2 _ _ _ z10) (ab_mkC s_MRunner_unary (show fr + 1 ≤ fr + 5 from by have := ho.1; omega) (show 8 + (3 + 11) + lo ≤ lo + 123 from by have := ho.2.1; omega) (Nat.le_refl 0) (Nat.le_refl 0)) (k12 30 rfl rfl) i_MRunner_unary v_MRunner_unary (by rw [(s_2).1]; exact q6) (by decide) rfl rfl (Nat.le_of_ble_eq_true rfl) ?_
  have s_3 : Sa H H12 := (s_2).tr (hmo.2 _ _ _ z10)
  refine ab_istore_n (lv' := [some (.ref p0), some (.int x7), some (.int v11)]) d_MRunner_unary_42 rfl (by decide) rfl ?_
  refine ab_aload_n d_MRunner_unary_43 rfl rfl rfl ?_
  obtain ⟨a13, e14, hG⟩ := rf_s hF; clear hF
  refine hp_getR (f := 0) d_MRunner_unary_44 (by rw [(s_3).1]; exact q6) (by decide) rfl (by decide) (k9 183 rfl rfl) rfl e14 ?_
  obtain ⟨q15, hF⟩ := ck_s hG; clear hG
  rw [(s_3).1] at q15
  obtain ⟨a16, e17, hG⟩ := rf_s hF; clear hF
  refine hp_getRN (f := 3) d_MRunner_unary_47 (by rw [(s_3).1]; exact q15) (by decide) rfl (by decide) (k8 163 rfl rfl) rfl e17 ?_
  refine ab_iload_n d_MRunner_unary_50 rfl rfl ?_
  obtain ⟨n18, q19, hF⟩ := ar_s hG; clear hG
  rw [(s_3).1] at q19
  obtain ⟨q20, hG⟩ := ck_s hF; clear hF
  refine hp_iald d_MRunner_unary_51 tI (by rw [(s_3).1]; exact q19) q20 ?_
  refine ab_topi (fun x21 ex21 => ?_)
  replace hG := bnd_s ex21 hG
  refine ab_bipush (v := 33) d_MRunner_unary_52 (by decide) ?_
  refine ab_icmp_ne (tgt := 63) d_MRunner_unary_54 (by decide) (fun q22 => ?_) (fun q22 => ?_)
  · rw [if_neg q22] at hG
    refine ab_aload_n d_MRunner_unary_63 rfl rfl rfl ?_
    obtain ⟨a23, e24, hF⟩ := rf_s hG; clear hG
    refine hp_getR (f := 0) d_MRunner_unary_64 (by rw [(s_3).1]; exact q6) (by decide) rfl (by decide) (k9 183 rfl rfl) rfl e24 ?_
    obtain ⟨q25, hG⟩ := ck_s hF; clear hF
    rw [(s_3).1] at q25
    obtain ⟨a26, e27, hF⟩ := rf_s hG; clear hG
    refine hp_getRN (f := 8) d_MRunner_unary_67 (by rw [(s_3).1]; exact q25) (by decide) rfl (by decide) (k8 170 rfl rfl) rfl e27 ?_
    refine ab_iload_n d_MRunner_unary_70 rfl rfl ?_
    obtain ⟨n28, q29, hG⟩ := ar_s hF; clear hF
    rw [(s_3).1] at q29
    obtain ⟨q30, hF⟩ := ck_s hG; clear hG
    refine hp_iald d_MRunner_unary_71 tI (by rw [(s_3).1]; exact q29) q30 ?_
    refine ab_topi (fun x31 ex31 => ?_)
    replace hF := bnd_s ex31 hF
    refine ab_iload_n d_MRunner_unary_72 rfl rfl ?_
    refine ab_i2l d_MRunner_unary_73 ?_
    refine ab_lneg d_MRunner_unary_74 ?_
    obtain ⟨v33, H34, z32, hG⟩ := bC_s hF; clear hF
    refine hp_callSN_a (v := .int v33) (H1 := H34) (As := [.int x31, .long (-((v11 : Int32).toInt64))]) (rest := []) d_MRunner_unary_75 (k_M_held z32) (ab_mkC s_M_held (show 0 + 1 ≤ fr + 5 from by have := ho.1; omega) (show 8 + (3 + 11) + 0 ≤ lo + 123 from by have := ho.2.1; omega) (Nat.le_refl 0) (Nat.le_refl 0)) (k12 74 rfl rfl) t_M_held rfl (Nat.le_of_ble_eq_true rfl) ?_
    have s_4 : Sa H H34 := (s_3).tr (m_M_held z32)
    exact ab_iret d_MRunner_unary_78 rfl (Nat.le_refl _) (Nat.le_refl _) (by have hr := Option.some.inj hG; subst hr; exact ⟨rfl, rfl⟩)
  · rw [if_pos q22] at hG
    refine ab_iconst (v := 1) d_MRunner_unary_57 (by decide) ?_
    refine ab_iload_n d_MRunner_unary_58 rfl rfl ?_
    refine ab_isub d_MRunner_unary_59 ?_
    refine ab_goto (tgt := 78) d_MRunner_unary_60 (by decide) ?_
    exact ab_iret d_MRunner_unary_78 rfl (Nat.le_refl _) (Nat.le_refl _) (by have hr := Option.some.inj hG; subst hr; exact ⟨rfl, rfl⟩)
def F_MRunner_unary (N : Nat) (o : Orc_RunE) (p0 : Nat) (H : Hp) : Option (Int32 × Hp) :=
    ck (H.sh[p0]? = some (15, 0)) <|
    bC (F_MRunner_is N p0 (45 : Int32) H) fun v3 H4 =>
    if v3 = (0 : Int32) then
    bC (F_MRunner_is N p0 (33 : Int32) H4) fun v65 H66 =>
    if v65 = (0 : Int32) then
    bC (F_MRunner_primary N o p0 H66) fun v69 H70 =>
    some (v69, H70)
    else
    B_MRunner_unary_23 N o p0  H66
    else
    B_MRunner_unary_23 N o p0  H4
set_option maxRecDepth 20000 in
set_option maxHeartbeats 2000000 in
theorem m_MRunner_unary {N : Nat} {o : Orc_RunE} (hmo : mo_RunE o) {p0 : Nat} {H : Hp} {r : Int32 × Hp} (hF : F_MRunner_unary N o p0 H = some r) : Sa H r.2 := by
  unfold F_MRunner_unary at hF
  have hm := Sa.rf H
  obtain ⟨q71, hG⟩ := ck_s hF; clear hF
  obtain ⟨v73, H74, z72, hF⟩ := bC_s hG; clear hG
  replace hm : Sa H H74 := hm.tr (m_MRunner_is z72)
  rcases ite_s hF with ⟨q_12, hG⟩ | ⟨q_12, hG⟩
  · clear hF
    obtain ⟨v77, H78, z76, hF⟩ := bC_s hG; clear hG
    replace hm : Sa H H78 := hm.tr (m_MRunner_is z76)
    rcases ite_s hF with ⟨q_14, hG⟩ | ⟨q_14, hG⟩
    · clear hF
      obtain ⟨v81, H82, z80, hF⟩ := bC_s hG; clear hG
      replace hm : Sa H H82 := hm.tr (m_MRunner_primary hmo z80)
      have hr := Option.some.inj hF; subst hr
      exact hm
    · clear hF
      exact hm.tr (mB_MRunner_unary_23 hmo hG)
  · clear hF
    exact hm.tr (mB_MRunner_unary_23 hmo hG)
set_option maxRecDepth 20000 in
set_option maxHeartbeats 2000000 in
theorem k_MRunner_unary {N : Nat} {o : Orc_RunE} {fr lo : Nat} (ho : ok_RunE o fr lo) (hmo : mo_RunE o) {p0 : Nat} {H : Hp} {r : Int32 × Hp} (hF : F_MRunner_unary N o p0 H = some r) : ab_M y_MRunner_unary { frames := fr + 5, cells := 0, slots := 0, locals := lo + 123 } [.ref p0] (hpw H) (po (.returned (some (.int r.1))) r.2) := by
  unfold F_MRunner_unary at hF
  refine ab_of2 (lv := [some (.ref p0), none, none]) 2 rfl rfl (Nat.le_of_ble_eq_true rfl) ?_
  refine ab_aload_n d_MRunner_unary_0 rfl rfl rfl ?_
  refine ab_bipush (v := 45) d_MRunner_unary_1 (by decide) ?_
  obtain ⟨q1, hG⟩ := ck_s hF; clear hF
  obtain ⟨v3, H4, z2, hF⟩ := bC_s hG; clear hG
  refine hp_callV_a (v := .int v3) (H1 := H4) (As := [.int 45]) (rest := []) d_MRunner_unary_3 (k_MRunner_is z2) (ab_mkC s_MRunner_is (show 0 + 1 ≤ fr + 5 from by have := ho.1; omega) (show 8 + (2 + 11) + 0 ≤ lo + 123 from by have := ho.2.1; omega) (Nat.le_refl 0) (Nat.le_refl 0)) (k12 34 rfl rfl) i_MRunner_is v_MRunner_is q1 (by decide) rfl rfl (Nat.le_of_ble_eq_true rfl) ?_
  have s_1 : Sa H H4 := (m_MRunner_is z2)
  refine ab_if_ne (tgt := 23) d_MRunner_unary_6 (by decide) (fun q5 => ?_) (fun q5 => ?_)
  · rw [if_neg q5] at hF
    exact kB_MRunner_unary_23 ho hmo hF
  · rw [if_pos q5] at hF
    refine ab_aload_n d_MRunner_unary_9 rfl rfl rfl ?_
    refine ab_bipush (v := 33) d_MRunner_unary_10 (by decide) ?_
    obtain ⟨v65, H66, z64, hG⟩ := bC_s hF; clear hF
    refine hp_callV_a (v := .int v65) (H1 := H66) (As := [.int 33]) (rest := []) d_MRunner_unary_12 (k_MRunner_is z64) (ab_mkC s_MRunner_is (show 0 + 1 ≤ fr + 5 from by have := ho.1; omega) (show 8 + (2 + 11) + 0 ≤ lo + 123 from by have := ho.2.1; omega) (Nat.le_refl 0) (Nat.le_refl 0)) (k12 34 rfl rfl) i_MRunner_is v_MRunner_is (by rw [(s_1).1]; exact q1) (by decide) rfl rfl (Nat.le_of_ble_eq_true rfl) ?_
    have s_9 : Sa H H66 := (s_1).tr (m_MRunner_is z64)
    refine ab_if_ne (tgt := 23) d_MRunner_unary_15 (by decide) (fun q67 => ?_) (fun q67 => ?_)
    · rw [if_neg q67] at hG
      exact kB_MRunner_unary_23 ho hmo hG
    · rw [if_pos q67] at hG
      refine ab_aload_n d_MRunner_unary_18 rfl rfl rfl ?_
      obtain ⟨v69, H70, z68, hF⟩ := bC_s hG; clear hG
      refine hp_callV_a (v := .int v69) (H1 := H70) (As := []) (rest := []) d_MRunner_unary_19 (k_MRunner_primary ho hmo z68) (ab_mkC s_MRunner_primary (show (fr + 1) + 1 ≤ fr + 5 from by have := ho.1; omega) (show 8 + (6 + 11) + (lo + 24) ≤ lo + 123 from by have := ho.2.1; omega) (Nat.le_refl 0) (Nat.le_refl 0)) (k12 38 rfl rfl) i_MRunner_primary v_MRunner_primary (by rw [(s_9).1]; exact q1) (by decide) rfl rfl (Nat.le_of_ble_eq_true rfl) ?_
      have s_10 : Sa H H70 := (s_9).tr (m_MRunner_primary hmo z68)
      exact ab_iret d_MRunner_unary_22 rfl (Nat.le_refl _) (Nat.le_refl _) (by have hr := Option.some.inj hF; subst hr; exact ⟨rfl, rfl⟩)
def y_MRunner_product : ab_Y := (⟨"WorldEngineModel$Runner", "product", "()I"⟩, prog_15_method_26_code, 4, (some FieldType.int), [])
theorem d_MRunner_product_0 : decode y_MRunner_product.2.1 0 = .ok (.aload_n 0, 1) := by decide +kernel
theorem d_MRunner_product_1 : decode y_MRunner_product.2.1 1 = .ok (.invokevirtual 254, 3) := by decide +kernel
theorem d_MRunner_product_4 : decode y_MRunner_product.2.1 4 = .ok (.istore_n 1, 1) := by decide +kernel
theorem d_MRunner_product_5 : decode y_MRunner_product.2.1 5 = .ok (.aload_n 0, 1) := by decide +kernel
theorem d_MRunner_product_6 : decode y_MRunner_product.2.1 6 = .ok (.bipush 42, 2) := by decide +kernel
theorem d_MRunner_product_8 : decode y_MRunner_product.2.1 8 = .ok (.invokevirtual 242, 3) := by decide +kernel
theorem d_MRunner_product_11 : decode y_MRunner_product.2.1 11 = .ok (.ifCond .ne 21, 3) := by decide +kernel
theorem d_MRunner_product_14 : decode y_MRunner_product.2.1 14 = .ok (.aload_n 0, 1) := by decide +kernel
theorem d_MRunner_product_15 : decode y_MRunner_product.2.1 15 = .ok (.bipush 47, 2) := by decide +kernel
theorem d_MRunner_product_17 : decode y_MRunner_product.2.1 17 = .ok (.invokevirtual 242, 3) := by decide +kernel
theorem d_MRunner_product_20 : decode y_MRunner_product.2.1 20 = .ok (.ifCond .ne 12, 3) := by decide +kernel
theorem d_MRunner_product_23 : decode y_MRunner_product.2.1 23 = .ok (.aload_n 0, 1) := by decide +kernel
theorem d_MRunner_product_24 : decode y_MRunner_product.2.1 24 = .ok (.bipush 37, 2) := by decide +kernel
theorem d_MRunner_product_26 : decode y_MRunner_product.2.1 26 = .ok (.invokevirtual 242, 3) := by decide +kernel
theorem d_MRunner_product_29 : decode y_MRunner_product.2.1 29 = .ok (.ifCond .eq 83, 3) := by decide +kernel
theorem d_MRunner_product_32 : decode y_MRunner_product.2.1 32 = .ok (.aload_n 0, 1) := by decide +kernel
theorem d_MRunner_product_33 : decode y_MRunner_product.2.1 33 = .ok (.getfield 108, 3) := by decide +kernel
theorem d_MRunner_product_36 : decode y_MRunner_product.2.1 36 = .ok (.istore_n 2, 1) := by decide +kernel
theorem d_MRunner_product_37 : decode y_MRunner_product.2.1 37 = .ok (.aload_n 0, 1) := by decide +kernel
theorem d_MRunner_product_38 : decode y_MRunner_product.2.1 38 = .ok (.dup, 1) := by decide +kernel
theorem d_MRunner_product_39 : decode y_MRunner_product.2.1 39 = .ok (.getfield 108, 3) := by decide +kernel
theorem d_MRunner_product_42 : decode y_MRunner_product.2.1 42 = .ok (.iconst 1, 1) := by decide +kernel
theorem d_MRunner_product_43 : decode y_MRunner_product.2.1 43 = .ok (.iadd, 1) := by decide +kernel
theorem d_MRunner_product_44 : decode y_MRunner_product.2.1 44 = .ok (.putfield 108, 3) := by decide +kernel
theorem d_MRunner_product_47 : decode y_MRunner_product.2.1 47 = .ok (.aload_n 0, 1) := by decide +kernel
theorem d_MRunner_product_48 : decode y_MRunner_product.2.1 48 = .ok (.invokevirtual 254, 3) := by decide +kernel
theorem d_MRunner_product_51 : decode y_MRunner_product.2.1 51 = .ok (.istore_n 3, 1) := by decide +kernel
theorem d_MRunner_product_52 : decode y_MRunner_product.2.1 52 = .ok (.aload_n 0, 1) := by decide +kernel
theorem d_MRunner_product_53 : decode y_MRunner_product.2.1 53 = .ok (.getfield 96, 3) := by decide +kernel
theorem d_MRunner_product_56 : decode y_MRunner_product.2.1 56 = .ok (.ifCond .gt 10, 3) := by decide +kernel
theorem d_MRunner_product_59 : decode y_MRunner_product.2.1 59 = .ok (.aload_n 0, 1) := by decide +kernel
theorem d_MRunner_product_60 : decode y_MRunner_product.2.1 60 = .ok (.getfield 99, 3) := by decide +kernel
theorem d_MRunner_product_63 : decode y_MRunner_product.2.1 63 = .ok (.ifCond .le 7, 3) := by decide +kernel
theorem d_MRunner_product_66 : decode y_MRunner_product.2.1 66 = .ok (.iconst 0, 1) := by decide +kernel
theorem d_MRunner_product_67 : decode y_MRunner_product.2.1 67 = .ok (.goto 41, 3) := by decide +kernel
theorem d_MRunner_product_70 : decode y_MRunner_product.2.1 70 = .ok (.aload_n 0, 1) := by decide +kernel
theorem d_MRunner_product_71 : decode y_MRunner_product.2.1 71 = .ok (.getfield 25, 3) := by decide +kernel
theorem d_MRunner_product_74 : decode y_MRunner_product.2.1 74 = .ok (.getfield 131, 3) := by decide +kernel
theorem d_MRunner_product_77 : decode y_MRunner_product.2.1 77 = .ok (.iload_n 2, 1) := by decide +kernel
theorem d_MRunner_product_78 : decode y_MRunner_product.2.1 78 = .ok (.iaload, 1) := by decide +kernel
theorem d_MRunner_product_79 : decode y_MRunner_product.2.1 79 = .ok (.bipush 42, 2) := by decide +kernel
theorem d_MRunner_product_81 : decode y_MRunner_product.2.1 81 = .ok (.if_icmp .ne 20, 3) := by decide +kernel
theorem d_MRunner_product_84 : decode y_MRunner_product.2.1 84 = .ok (.aload_n 0, 1) := by decide +kernel
theorem d_MRunner_product_85 : decode y_MRunner_product.2.1 85 = .ok (.getfield 25, 3) := by decide +kernel
theorem d_MRunner_product_88 : decode y_MRunner_product.2.1 88 = .ok (.getfield 122, 3) := by decide +kernel
theorem d_MRunner_product_91 : decode y_MRunner_product.2.1 91 = .ok (.iload_n 2, 1) := by decide +kernel
theorem d_MRunner_product_92 : decode y_MRunner_product.2.1 92 = .ok (.iaload, 1) := by decide +kernel
theorem d_MRunner_product_93 : decode y_MRunner_product.2.1 93 = .ok (.iload_n 1, 1) := by decide +kernel
theorem d_MRunner_product_94 : decode y_MRunner_product.2.1 94 = .ok (.iload_n 3, 1) := by decide +kernel
theorem d_MRunner_product_95 : decode y_MRunner_product.2.1 95 = .ok (.invokestatic 257, 3) := by decide +kernel
theorem d_MRunner_product_98 : decode y_MRunner_product.2.1 98 = .ok (.goto 10, 3) := by decide +kernel
theorem d_MRunner_product_101 : decode y_MRunner_product.2.1 101 = .ok (.aload_n 0, 1) := by decide +kernel
theorem d_MRunner_product_102 : decode y_MRunner_product.2.1 102 = .ok (.iload_n 2, 1) := by decide +kernel
theorem d_MRunner_product_103 : decode y_MRunner_product.2.1 103 = .ok (.iload_n 1, 1) := by decide +kernel
theorem d_MRunner_product_104 : decode y_MRunner_product.2.1 104 = .ok (.iload_n 3, 1) := by decide +kernel
theorem d_MRunner_product_105 : decode y_MRunner_product.2.1 105 = .ok (.invokevirtual 261, 3) := by decide +kernel
theorem d_MRunner_product_108 : decode y_MRunner_product.2.1 108 = .ok (.istore_n 1, 1) := by decide +kernel
theorem d_MRunner_product_109 : decode y_MRunner_product.2.1 109 = .ok (.goto (-104), 3) := by decide +kernel
theorem d_MRunner_product_112 : decode y_MRunner_product.2.1 112 = .ok (.iload_n 1, 1) := by decide +kernel
theorem d_MRunner_product_113 : decode y_MRunner_product.2.1 113 = .ok (.ireturn, 1) := by decide +kernel
theorem s_MRunner_product : ab_Stat y_MRunner_product 0 := ⟨(k12 29 rfl rfl), (k1 22 rfl rfl), ⟨by decide, by decide⟩, by decide +kernel⟩
theorem i_MRunner_product : Cond.instanceMethod y_MRunner_product.1 ∈ ab_T := (k12 28 rfl rfl)
theorem v_MRunner_product : Cond.selects "WorldEngineModel$Runner" y_MRunner_product.1 y_MRunner_product.1 ∈ ab_T := ab_s (List.mem_of_getElem? (i := 185) rfl) rfl
def B_MRunner_product_108 (N : Nat) (o : Orc_RunE) (p0 : Nat) (kq5 : Int32 → Hp → Option (Int32 × Hp)) (w0 : Int32) (H : Hp) : Option (Int32 × Hp) :=
    kq5 w0 H
set_option maxRecDepth 20000 in
set_option maxHeartbeats 2000000 in
theorem mB_MRunner_product_108 {N : Nat} {o : Orc_RunE} (hmo : mo_RunE o) {p0 : Nat} {kq5 : Int32 → Hp → Option (Int32 × Hp)} (hm5 : ∀ (l1 : Int32) (H : Hp) (r : Int32 × Hp), kq5 l1 H = some r → Sa H r.2) {w0 : Int32} {H : Hp} {r : Int32 × Hp} (hF : B_MRunner_product_108 N o p0 kq5 w0 H = some r) : Sa H r.2 := by
  unfold B_MRunner_product_108 at hF
  have hm := Sa.rf H
  exact hm.tr (hm5 w0 H r hF)
set_option maxRecDepth 20000 in
set_option maxHeartbeats 2000000 in
theorem kB_MRunner_product_108 {N : Nat} {o : Orc_RunE} {fr lo : Nat} (ho : ok_RunE o fr lo) (hmo : mo_RunE o) {p0 : Nat} {kq5 : Int32 → Hp → Option (Int32 × Hp)} (hm5 : ∀ (l1 : Int32) (H : Hp) (r : Int32 × Hp), kq5 l1 H = some r → Sa H r.2) (hk5 : ∀ (l1 : Int32) (H : Hp) (r : Int32 × Hp), kq5 l1 H = some r → ab_V y_MRunner_product { frames := fr + 1, cells := 0, slots := 0, locals := lo + 31 } (po (.returned (some (.int r.1))) r.2) 0 0 0 0 5 [some (.ref p0), some (.int l1), none, none] [] (hpw H)) {w0 : Int32} {H : Hp} {r : Int32 × Hp} (hF : B_MRunner_product_108 N o p0 kq5 w0 H = some r) : ab_V y_MRunner_product { frames := fr + 1, cells := 0, slots := 0, locals := lo + 31 } (po (.returned (some (.int r.1))) r.2) 0 0 0 0 108 [some (.ref p0), none, none, none] [.int w0] (hpw H) := by
  unfold B_MRunner_product_108 at hF
  refine ab_istore_n (lv' := [some (.ref p0), some (.int w0), none, none]) d_MRunner_product_108 rfl (by decide) rfl ?_
  refine ab_goto (tgt := 5) d_MRunner_product_109 (by decide) ?_
  exact hk5 w0 H r hF
def B_MRunner_product_66 (N : Nat) (o : Orc_RunE) (p0 : Nat) (kq5 : Int32 → Hp → Option (Int32 × Hp))  (H : Hp) : Option (Int32 × Hp) :=
    B_MRunner_product_108 N o p0 kq5 0 H
set_option maxRecDepth 20000 in
set_option maxHeartbeats 2000000 in
theorem mB_MRunner_product_66 {N : Nat} {o : Orc_RunE} (hmo : mo_RunE o) {p0 : Nat} {kq5 : Int32 → Hp → Option (Int32 × Hp)} (hm5 : ∀ (l1 : Int32) (H : Hp) (r : Int32 × Hp), kq5 l1 H = some r → Sa H r.2)  {H : Hp} {r : Int32 × Hp} (hF : B_MRunner_product_66 N o p0 kq5  H = some r) : Sa H r.2 := by
  unfold B_MRunner_product_66 at hF
  have hm := Sa.rf H
  exact hm.tr (mB_MRunner_product_108 hmo hm5 hF)
set_option maxRecDepth 20000 in
set_option maxHeartbeats 2000000 in
theorem kB_MRunner_product_66 {N : Nat} {o : Orc_RunE} {fr lo : Nat} (ho : ok_RunE o fr lo) (hmo : mo_RunE o) {p0 : Nat} {kq5 : Int32 → Hp → Option (Int32 × Hp)} (hm5 : ∀ (l1 : Int32) (H : Hp) (r : Int32 × Hp), kq5 l1 H = some r → Sa H r.2) (hk5 : ∀ (l1 : Int32) (H : Hp) (r : Int32 × Hp), kq5 l1 H = some r → ab_V y_MRunner_product { frames := fr + 1, cells := 0, slots := 0, locals := lo + 31 } (po (.returned (some (.int r.1))) r.2) 0 0 0 0 5 [some (.ref p0), some (.int l1), none, none] [] (hpw H))  {H : Hp} {r : Int32 × Hp} (hF : B_MRunner_product_66 N o p0 kq5  H = some r) : ab_V y_MRunner_product { frames := fr + 1, cells := 0, slots := 0, locals := lo + 31 } (po (.returned (some (.int r.1))) r.2) 0 0 0 0 66 [some (.ref p0), none, none, none] [] (hpw H) := by
  unfold B_MRunner_product_66 at hF
  refine ab_iconst (v := 0) d_MRunner_product_66 (by decide) ?_
  refine ab_goto (tgt := 108) d_MRunner_product_67 (by decide) ?_
  exact kB_MRunner_product_108 ho hmo hm5 hk5 hF
def B_MRunner_product_32 (N : Nat) (o : Orc_RunE) (p0 : Nat) (kq5 : Int32 → Hp → Option (Int32 × Hp)) (l1 : Int32) (H : Hp) : Option (Int32 × Hp) :=
    ck (H.sh[p0]? = some (15, 0)) <|
    bnd ((H.D p0 11)) fun x11 =>
    bnd ((H.D p0 11)) fun x12 =>
    bnd (H.sD p0 11 (x12 + (1 : Int32))) fun H13 =>
    bC (o.2 p0 H13) fun v15 H16 =>
    bnd ((H16.D p0 10)) fun x17 =>
    if (0 : Int32) < x17 then
    B_MRunner_product_66 N o p0 kq5  H16
    else
    bnd ((H16.D p0 12)) fun x19 =>
    if x19 ≤ (0 : Int32) then
    rf (H16.P p0 0) fun a21 =>
    ck (H16.sh[a21]? = some (14, 0)) <|
    rf (H16.P a21 3) fun a24 =>
    ar H16 100 a24 fun n26 =>
    ck (inb x11 n26) <|
    bnd ((H16.D a24 (x11).toNatClampNeg)) fun x29 =>
    if x29 = (42 : Int32) then
    rf (H16.P p0 0) fun a34 =>
    ck (H16.sh[a34]? = some (14, 0)) <|
    rf (H16.P a34 8) fun a37 =>
    ar H16 100 a37 fun n39 =>
    ck (inb x11 n39) <|
    bnd ((H16.D a37 (x11).toNatClampNeg)) fun x42 =>
    bC (F_MRunner_times N x42 l1 v15 H16) fun v44 H45 =>
    B_MRunner_product_108 N o p0 kq5 v44 H45
    else
    bC (F_MRunner_divided N p0 x11 l1 v15 H16) fun v32 H33 =>
    B_MRunner_product_108 N o p0 kq5 v32 H33
    else
    B_MRunner_product_66 N o p0 kq5  H16
set_option maxRecDepth 20000 in
set_option maxHeartbeats 2000000 in
theorem mB_MRunner_product_32 {N : Nat} {o : Orc_RunE} (hmo : mo_RunE o) {p0 : Nat} {kq5 : Int32 → Hp → Option (Int32 × Hp)} (hm5 : ∀ (l1 : Int32) (H : Hp) (r : Int32 × Hp), kq5 l1 H = some r → Sa H r.2) {l1 : Int32} {H : Hp} {r : Int32 × Hp} (hF : B_MRunner_product_32 N o p0 kq5 l1 H = some r) : Sa H r.2 := by
  unfold B_MRunner_product_32 at hF
  have hm := Sa.rf H
  obtain ⟨q46, hG⟩ := ck_s hF; clear hF
  obtain ⟨x47, -, hF⟩ := bnd_g hG; clear hG
  obtain ⟨x48, -, hG⟩ := bnd_g hF; clear hF
  obtain ⟨H49, eH49, hF⟩ := bnd_g hG; clear hG
  replace hm : Sa H H49 := by rw [eH49]; exact hm
  obtain ⟨v51, H52, z50, hG⟩ := bC_s hF; clear hF
  replace hm : Sa H H52 := hm.tr (hmo.2 _ _ _ z50)
  obtain ⟨x53, -, hF⟩ := bnd_g hG; clear hG
  rcases ite_s hF with ⟨q_9, hG⟩ | ⟨q_9, hG⟩
  · clear hF
    exact hm.tr (mB_MRunner_product_66 hmo hm5 hG)
  · clear hF
    obtain ⟨x55, -, hF⟩ := bnd_g hG; clear hG
    rcases ite_s hF with ⟨q_10, hG⟩ | ⟨q_10, hG⟩
    · clear hF
      obtain ⟨a57, e58, hF⟩ := rf_s hG; clear hG
      obtain ⟨q59, hG⟩ := ck_s hF; clear hF
      obtain ⟨a60, e61, hF⟩ := rf_s hG; clear hG
      obtain ⟨n62, q63, hG⟩ := ar_s hF; clear hF
      obtain ⟨q64, hF⟩ := ck_s hG; clear hG
      obtain ⟨x65, -, hG⟩ := bnd_g hF; clear hF
      rcases ite_s hG with ⟨q_11, hF⟩ | ⟨q_11, hF⟩
      · clear hG
        obtain ⟨a67, e68, hG⟩ := rf_s hF; clear hF
        obtain ⟨q69, hF⟩ := ck_s hG; clear hG
        obtain ⟨a70, e71, hG⟩ := rf_s hF; clear hF
        obtain ⟨n72, q73, hF⟩ := ar_s hG; clear hG
        obtain ⟨q74, hG⟩ := ck_s hF; clear hF
        obtain ⟨x75, -, hF⟩ := bnd_g hG; clear hG
        obtain ⟨v77, H78, z76, hG⟩ := bC_s hF; clear hF
        replace hm : Sa H H78 := hm.tr (m_MRunner_times z76)
        exact hm.tr (mB_MRunner_product_108 hmo hm5 hG)
      · clear hG
        obtain ⟨v80, H81, z79, hG⟩ := bC_s hF; clear hF
        replace hm : Sa H H81 := hm.tr (m_MRunner_divided z79)
        exact hm.tr (mB_MRunner_product_108 hmo hm5 hG)
    · clear hF
      exact hm.tr (mB_MRunner_product_66 hmo hm5 hG)
set_option maxRecDepth 20000 in
set_option maxHeartbeats 2000000 in
theorem kB_MRunner_product_32 {N : Nat} {o : Orc_RunE} {fr lo : Nat} (ho : ok_RunE o fr lo) (hmo : mo_RunE o) {p0 : Nat} {kq5 : Int32 → Hp → Option (Int32 × Hp)} (hm5 : ∀ (l1 : Int32) (H : Hp) (r : Int32 × Hp), kq5 l1 H = some r → Sa H r.2) (hk5 : ∀ (l1 : Int32) (H : Hp) (r : Int32 × Hp), kq5 l1 H = some r → ab_V y_MRunner_product { frames := fr + 1, cells := 0, slots := 0, locals := lo + 31 } (po (.returned (some (.int r.1))) r.2) 0 0 0 0 5 [some (.ref p0), some (.int l1), none, none] [] (hpw H)) {l1 : Int32} {H : Hp} {r : Int32 × Hp} (hF : B_MRunner_product_32 N o p0 kq5 l1 H = some r) : ab_V y_MRunner_product { frames := fr + 1, cells := 0, slots := 0, locals := lo + 31 } (po (.returned (some (.int r.1))) r.2) 0 0 0 0 32 [some (.ref p0), some (.int l1), none, none] [] (hpw H) := by
  unfold B_MRunner_product_32 at hF
  refine ab_aload_n d_MRunner_product_32 rfl rfl rfl ?_
  obtain ⟨q10, hG⟩ := ck_s hF; clear hF
  refine hp_getI (f := 11) d_MRunner_product_33 q10 (by decide) rfl (by decide) (k9 194 rfl rfl) rfl ?_
  refine ab_topi (fun x11 ex11 => ?_)
  replace hG := bnd_s ex11 hG
  refine ab_istore_n (lv' := [some (.ref p0), some (.int l1), some (.int x11), none]) d_MRunner_product_36 rfl (by decide) rfl ?_
  refine ab_aload_n d_MRunner_product_37 rfl rfl rfl ?_
  refine ab_dup d_MRunner_product_38 rfl ?_
  refine hp_getI (f := 11) d_MRunner_product_39 q10 (by decide) rfl (by decide) (k9 194 rfl rfl) rfl ?_
  refine ab_topi (fun x12 ex12 => ?_)
  replace hG := bnd_s ex12 hG
  refine ab_iconst (v := 1) d_MRunner_product_42 (by decide) ?_
  refine ab_iadd d_MRunner_product_43 ?_
  refine hp_putI (v := x12 + (1 : Int32)) (f := 11) d_MRunner_product_44 q10 (by decide) rfl (by decide) (k9 194 rfl rfl) rfl rfl (fun _ => rfl) (fun _ => rfl) rfl ?_
  refine hp_gen (fun H13 eH13 => ?_)
  replace hG := bnd_s eH13 hG
  have s_3 : Sa H H13 := by rw [eH13]; exact Sa.rf _
  refine ab_aload_n d_MRunner_product_47 rfl rfl rfl ?_
  obtain ⟨v15, H16, z14, hF⟩ := bC_s hG; clear hG
  refine hp_callV_a (v := .int v15) (H1 := H16) (As := []) (rest := []) d_MRunner_product_48 (ho.2.2.2 _ _ _ z14) (ab_mkC s_MRunner_unary (show fr + 1 ≤ fr + 1 from by have := ho.1; omega) (show 8 + (3 + 11) + lo ≤ lo + 31 from by have := ho.2.1; omega) (Nat.le_refl 0) (Nat.le_refl 0)) (k12 30 rfl rfl) i_MRunner_unary v_MRunner_unary (by rw [(s_3).1]; exact q10) (by decide) rfl rfl (Nat.le_of_ble_eq_true rfl) ?_
  have s_4 : Sa H H16 := (s_3).tr (hmo.2 _ _ _ z14)
  refine ab_istore_n (lv' := [some (.ref p0), some (.int l1), some (.int x11), some (.int v15)]) d_MRunner_product_51 rfl (by decide) rfl ?_
  refine ab_aload_n d_MRunner_product_52 rfl rfl rfl ?_
  refine hp_getI (f := 10) d_MRunner_product_53 (by rw [(s_4).1]; exact q10) (by decide) rfl (by decide) (k9 193 rfl rfl) rfl ?_
  refine ab_topi (fun x17 ex17 => ?_)
  replace hF := bnd_s ex17 hF
  refine ab_if_gt (tgt := 66) d_MRunner_product_56 (by decide) (fun q18 => ?_) (fun q18 => ?_)
  · rw [if_pos q18] at hF
    refine ab_le (lv' := [some (.ref p0), none, none, none]) ⟨rfl, trivial⟩ ?_
    exact kB_MRunner_product_66 ho hmo hm5 hk5 hF
  · rw [if_neg q18] at hF
    refine ab_aload_n d_MRunner_product_59 rfl rfl rfl ?_
    refine hp_getI (f := 12) d_MRunner_product_60 (by rw [(s_4).1]; exact q10) (by decide) rfl (by decide) (k9 195 rfl rfl) rfl ?_
    refine ab_topi (fun x19 ex19 => ?_)
    replace hF := bnd_s ex19 hF
    refine ab_if_le (tgt := 70) d_MRunner_product_63 (by decide) (fun q20 => ?_) (fun q20 => ?_)
    · rw [if_pos q20] at hF
      refine ab_aload_n d_MRunner_product_70 rfl rfl rfl ?_
      obtain ⟨a21, e22, hG⟩ := rf_s hF; clear hF
      refine hp_getR (f := 0) d_MRunner_product_71 (by rw [(s_4).1]; exact q10) (by decide) rfl (by decide) (k9 183 rfl rfl) rfl e22 ?_
      obtain ⟨q23, hF⟩ := ck_s hG; clear hG
      rw [(s_4).1] at q23
      obtain ⟨a24, e25, hG⟩ := rf_s hF; clear hF
      refine hp_getRN (f := 3) d_MRunner_product_74 (by rw [(s_4).1]; exact q23) (by decide) rfl (by decide) (k8 163 rfl rfl) rfl e25 ?_
      refine ab_iload_n d_MRunner_product_77 rfl rfl ?_
      obtain ⟨n26, q27, hF⟩ := ar_s hG; clear hG
      rw [(s_4).1] at q27
      obtain ⟨q28, hG⟩ := ck_s hF; clear hF
      refine hp_iald d_MRunner_product_78 tI (by rw [(s_4).1]; exact q27) q28 ?_
      refine ab_topi (fun x29 ex29 => ?_)
      replace hG := bnd_s ex29 hG
      refine ab_bipush (v := 42) d_MRunner_product_79 (by decide) ?_
      refine ab_icmp_ne (tgt := 101) d_MRunner_product_81 (by decide) (fun q30 => ?_) (fun q30 => ?_)
      · rw [if_neg q30] at hG
        refine ab_aload_n d_MRunner_product_101 rfl rfl rfl ?_
        refine ab_iload_n d_MRunner_product_102 rfl rfl ?_
        refine ab_iload_n d_MRunner_product_103 rfl rfl ?_
        refine ab_iload_n d_MRunner_product_104 rfl rfl ?_
        obtain ⟨v32, H33, z31, hF⟩ := bC_s hG; clear hG
        refine hp_callV_a (v := .int v32) (H1 := H33) (As := [.int x11, .int l1, .int v15]) (rest := []) d_MRunner_product_105 (k_MRunner_divided z31) (ab_mkC s_MRunner_divided (show 1 + 1 ≤ fr + 1 from by have := ho.1; omega) (show 8 + (12 + 11) + 22 ≤ lo + 31 from by have := ho.2.1; omega) (Nat.le_refl 0) (Nat.le_refl 0)) (k12 80 rfl rfl) i_MRunner_divided v_MRunner_divided (by rw [(s_4).1]; exact q10) (by decide) rfl rfl (Nat.le_of_ble_eq_true rfl) ?_
        have s_5 : Sa H H33 := (s_4).tr (m_MRunner_divided z31)
        refine ab_le (lv' := [some (.ref p0), none, none, none]) ⟨rfl, trivial⟩ ?_
        exact kB_MRunner_product_108 ho hmo hm5 hk5 hF
      · rw [if_pos q30] at hG
        refine ab_aload_n d_MRunner_product_84 rfl rfl rfl ?_
        obtain ⟨a34, e35, hF⟩ := rf_s hG; clear hG
        refine hp_getR (f := 0) d_MRunner_product_85 (by rw [(s_4).1]; exact q10) (by decide) rfl (by decide) (k9 183 rfl rfl) rfl e35 ?_
        obtain ⟨q36, hG⟩ := ck_s hF; clear hF
        rw [(s_4).1] at q36
        obtain ⟨a37, e38, hF⟩ := rf_s hG; clear hG
        refine hp_getRN (f := 8) d_MRunner_product_88 (by rw [(s_4).1]; exact q36) (by decide) rfl (by decide) (k8 170 rfl rfl) rfl e38 ?_
        refine ab_iload_n d_MRunner_product_91 rfl rfl ?_
        obtain ⟨n39, q40, hG⟩ := ar_s hF; clear hF
        rw [(s_4).1] at q40
        obtain ⟨q41, hF⟩ := ck_s hG; clear hG
        refine hp_iald d_MRunner_product_92 tI (by rw [(s_4).1]; exact q40) q41 ?_
        refine ab_topi (fun x42 ex42 => ?_)
        replace hF := bnd_s ex42 hF
        refine ab_iload_n d_MRunner_product_93 rfl rfl ?_
        refine ab_iload_n d_MRunner_product_94 rfl rfl ?_
        obtain ⟨v44, H45, z43, hG⟩ := bC_s hF; clear hF
        refine hp_callS_a (v := .int v44) (H1 := H45) (As := [.int x42, .int l1, .int v15]) (rest := []) d_MRunner_product_95 (k_MRunner_times z43) (ab_mkC s_MRunner_times (show 1 + 1 ≤ fr + 1 from by have := ho.1; omega) (show 8 + (9 + 11) + 22 ≤ lo + 31 from by have := ho.2.1; omega) (Nat.le_refl 0) (Nat.le_refl 0)) (k12 75 rfl rfl) t_MRunner_times rfl (Nat.le_of_ble_eq_true rfl) ?_
        have s_6 : Sa H H45 := (s_4).tr (m_MRunner_times z43)
        refine ab_goto (tgt := 108) d_MRunner_product_98 (by decide) ?_
        refine ab_le (lv' := [some (.ref p0), none, none, none]) ⟨rfl, trivial⟩ ?_
        exact kB_MRunner_product_108 ho hmo hm5 hk5 hG
    · rw [if_neg q20] at hF
      refine ab_le (lv' := [some (.ref p0), none, none, none]) ⟨rfl, trivial⟩ ?_
      exact kB_MRunner_product_66 ho hmo hm5 hk5 hF
def B_MRunner_product_5 (N : Nat) (o : Orc_RunE) (p0 : Nat) : Nat → Int32 → Hp → Option (Int32 × Hp)
  | 0, _, _ => none
  | n + 1, l1, H =>
    ck (H.sh[p0]? = some (15, 0)) <|
    bC (F_MRunner_is N p0 (42 : Int32) H) fun v7 H8 =>
    if v7 = (0 : Int32) then
    bC (F_MRunner_is N p0 (47 : Int32) H8) fun v83 H84 =>
    if v83 = (0 : Int32) then
    bC (F_MRunner_is N p0 (37 : Int32) H84) fun v87 H88 =>
    if v87 = (0 : Int32) then
    some (l1, H88)
    else
    B_MRunner_product_32 N o p0 (fun l1 H => B_MRunner_product_5 N o p0 n l1 H) l1 H88
    else
    B_MRunner_product_32 N o p0 (fun l1 H => B_MRunner_product_5 N o p0 n l1 H) l1 H84
    else
    B_MRunner_product_32 N o p0 (fun l1 H => B_MRunner_product_5 N o p0 n l1 H) l1 H8
termination_by structural n => n
set_option maxRecDepth 20000 in
set_option maxHeartbeats 2000000 in
theorem mB_MRunner_product_5 {N : Nat} {o : Orc_RunE} (hmo : mo_RunE o) {p0 : Nat} : ∀ (n : Nat) (l1 : Int32) (H : Hp) (r : Int32 × Hp), B_MRunner_product_5 N o p0 n l1 H = some r → Sa H r.2 := by
  intro n
  induction n with
  | zero => intro l1 H r hF; rw [B_MRunner_product_5] at hF; cases hF
  | succ n ih =>
    intro l1 H r hF
    rw [B_MRunner_product_5] at hF
    have hm := Sa.rf H
    obtain ⟨q90, hG⟩ := ck_s hF; clear hF
    obtain ⟨v92, H93, z91, hF⟩ := bC_s hG; clear hG
    replace hm : Sa H H93 := hm.tr (m_MRunner_is z91)
    rcases ite_s hF with ⟨q_17, hG⟩ | ⟨q_17, hG⟩
    · clear hF
      obtain ⟨v96, H97, z95, hF⟩ := bC_s hG; clear hG
      replace hm : Sa H H97 := hm.tr (m_MRunner_is z95)
      rcases ite_s hF with ⟨q_19, hG⟩ | ⟨q_19, hG⟩
      · clear hF
        obtain ⟨v100, H101, z99, hF⟩ := bC_s hG; clear hG
        replace hm : Sa H H101 := hm.tr (m_MRunner_is z99)
        rcases ite_s hF with ⟨q_21, hG⟩ | ⟨q_21, hG⟩
        · clear hF
          have hr := Option.some.inj hG; subst hr
          exact hm
        · clear hF
          exact hm.tr (mB_MRunner_product_32 hmo ih hG)
      · clear hF
        exact hm.tr (mB_MRunner_product_32 hmo ih hG)
    · clear hF
      exact hm.tr (mB_MRunner_product_32 hmo ih hG)
set_option maxRecDepth 20000 in
set_option maxHeartbeats 2000000 in
theorem kB_MRunner_product_5 {N : Nat} {o : Orc_RunE} {fr lo : Nat} (ho : ok_RunE o fr lo) (hmo : mo_RunE o) {p0 : Nat} : ∀ (n : Nat) (l1 : Int32) (H : Hp) (r : Int32 × Hp), B_MRunner_product_5 N o p0 n l1 H = some r → ab_V y_MRunner_product { frames := fr + 1, cells := 0, slots := 0, locals := lo + 31 } (po (.returned (some (.int r.1))) r.2) 0 0 0 0 5 [some (.ref p0), some (.int l1), none, none] [] (hpw H) := by
  intro n
  induction n with
  | zero => intro l1 H r hF; rw [B_MRunner_product_5] at hF; cases hF
  | succ n ih =>
    intro l1 H r hF
    rw [B_MRunner_product_5] at hF
    refine ab_aload_n d_MRunner_product_5 rfl rfl rfl ?_
    refine ab_bipush (v := 42) d_MRunner_product_6 (by decide) ?_
    obtain ⟨q5, hG⟩ := ck_s hF; clear hF
    obtain ⟨v7, H8, z6, hF⟩ := bC_s hG; clear hG
    refine hp_callV_a (v := .int v7) (H1 := H8) (As := [.int 42]) (rest := []) d_MRunner_product_8 (k_MRunner_is z6) (ab_mkC s_MRunner_is (show 0 + 1 ≤ fr + 1 from by have := ho.1; omega) (show 8 + (2 + 11) + 0 ≤ lo + 31 from by have := ho.2.1; omega) (Nat.le_refl 0) (Nat.le_refl 0)) (k12 34 rfl rfl) i_MRunner_is v_MRunner_is q5 (by decide) rfl rfl (Nat.le_of_ble_eq_true rfl) ?_
    have s_2 : Sa H H8 := (m_MRunner_is z6)
    refine ab_if_ne (tgt := 32) d_MRunner_product_11 (by decide) (fun q9 => ?_) (fun q9 => ?_)
    · rw [if_neg q9] at hF
      exact kB_MRunner_product_32 ho hmo (mB_MRunner_product_5 hmo n) ih hF
    · rw [if_pos q9] at hF
      refine ab_aload_n d_MRunner_product_14 rfl rfl rfl ?_
      refine ab_bipush (v := 47) d_MRunner_product_15 (by decide) ?_
      obtain ⟨v83, H84, z82, hG⟩ := bC_s hF; clear hF
      refine hp_callV_a (v := .int v83) (H1 := H84) (As := [.int 47]) (rest := []) d_MRunner_product_17 (k_MRunner_is z82) (ab_mkC s_MRunner_is (show 0 + 1 ≤ fr + 1 from by have := ho.1; omega) (show 8 + (2 + 11) + 0 ≤ lo + 31 from by have := ho.2.1; omega) (Nat.le_refl 0) (Nat.le_refl 0)) (k12 34 rfl rfl) i_MRunner_is v_MRunner_is (by rw [(s_2).1]; exact q5) (by decide) rfl rfl (Nat.le_of_ble_eq_true rfl) ?_
      have s_14 : Sa H H84 := (s_2).tr (m_MRunner_is z82)
      refine ab_if_ne (tgt := 32) d_MRunner_product_20 (by decide) (fun q85 => ?_) (fun q85 => ?_)
      · rw [if_neg q85] at hG
        exact kB_MRunner_product_32 ho hmo (mB_MRunner_product_5 hmo n) ih hG
      · rw [if_pos q85] at hG
        refine ab_aload_n d_MRunner_product_23 rfl rfl rfl ?_
        refine ab_bipush (v := 37) d_MRunner_product_24 (by decide) ?_
        obtain ⟨v87, H88, z86, hF⟩ := bC_s hG; clear hG
        refine hp_callV_a (v := .int v87) (H1 := H88) (As := [.int 37]) (rest := []) d_MRunner_product_26 (k_MRunner_is z86) (ab_mkC s_MRunner_is (show 0 + 1 ≤ fr + 1 from by have := ho.1; omega) (show 8 + (2 + 11) + 0 ≤ lo + 31 from by have := ho.2.1; omega) (Nat.le_refl 0) (Nat.le_refl 0)) (k12 34 rfl rfl) i_MRunner_is v_MRunner_is (by rw [(s_14).1]; exact q5) (by decide) rfl rfl (Nat.le_of_ble_eq_true rfl) ?_
        have s_15 : Sa H H88 := (s_14).tr (m_MRunner_is z86)
        refine ab_if_eq (tgt := 112) d_MRunner_product_29 (by decide) (fun q89 => ?_) (fun q89 => ?_)
        · rw [if_pos q89] at hF
          refine ab_iload_n d_MRunner_product_112 rfl rfl ?_
          exact ab_iret d_MRunner_product_113 rfl (Nat.le_refl _) (Nat.le_refl _) (by have hr := Option.some.inj hF; subst hr; exact ⟨rfl, rfl⟩)
        · rw [if_neg q89] at hF
          exact kB_MRunner_product_32 ho hmo (mB_MRunner_product_5 hmo n) ih hF
def F_MRunner_product (N : Nat) (o : Orc_RunE) (p0 : Nat) (H : Hp) : Option (Int32 × Hp) :=
    ck (H.sh[p0]? = some (15, 0)) <|
    bC (o.2 p0 H) fun v3 H4 =>
    B_MRunner_product_5 N o p0 N v3 H4
set_option maxRecDepth 20000 in
set_option maxHeartbeats 2000000 in
theorem m_MRunner_product {N : Nat} {o : Orc_RunE} (hmo : mo_RunE o) {p0 : Nat} {H : Hp} {r : Int32 × Hp} (hF : F_MRunner_product N o p0 H = some r) : Sa H r.2 := by
  unfold F_MRunner_product at hF
  have hm := Sa.rf H
  obtain ⟨q103, hG⟩ := ck_s hF; clear hF
  obtain ⟨v105, H106, z104, hF⟩ := bC_s hG; clear hG
  replace hm : Sa H H106 := hm.tr (hmo.2 _ _ _ z104)
  exact hm.tr (mB_MRunner_product_5 hmo N v105 H106 r hF)
set_option maxRecDepth 20000 in
set_option maxHeartbeats 2000000 in
theorem k_MRunner_product {N : Nat} {o : Orc_RunE} {fr lo : Nat} (ho : ok_RunE o fr lo) (hmo : mo_RunE o) {p0 : Nat} {H : Hp} {r : Int32 × Hp} (hF : F_MRunner_product N o p0 H = some r) : ab_M y_MRunner_product { frames := fr + 1, cells := 0, slots := 0, locals := lo + 31 } [.ref p0] (hpw H) (po (.returned (some (.int r.1))) r.2) := by
  unfold F_MRunner_product at hF
  refine ab_of2 (lv := [some (.ref p0), none, none, none]) 3 rfl rfl (Nat.le_of_ble_eq_true rfl) ?_
  refine ab_aload_n d_MRunner_product_0 rfl rfl rfl ?_
  obtain ⟨q1, hG⟩ := ck_s hF; clear hF
  obtain ⟨v3, H4, z2, hF⟩ := bC_s hG; clear hG
  refine hp_callV_a (v := .int v3) (H1 := H4) (As := []) (rest := []) d_MRunner_product_1 (ho.2.2.2 _ _ _ z2) (ab_mkC s_MRunner_unary (show fr + 1 ≤ fr + 1 from by have := ho.1; omega) (show 8 + (3 + 11) + lo ≤ lo + 31 from by have := ho.2.1; omega) (Nat.le_refl 0) (Nat.le_refl 0)) (k12 30 rfl rfl) i_MRunner_unary v_MRunner_unary q1 (by decide) rfl rfl (Nat.le_of_ble_eq_true rfl) ?_
  have s_1 : Sa H H4 := (hmo.2 _ _ _ z2)
  refine ab_istore_n (lv' := [some (.ref p0), some (.int v3), none, none]) d_MRunner_product_4 rfl (by decide) rfl ?_
  exact kB_MRunner_product_5 ho hmo N v3 H4 r hF
def y_MRunner_sum : ab_Y := (⟨"WorldEngineModel$Runner", "sum", "()I"⟩, prog_15_method_25_code, 4, (some FieldType.int), [])
theorem d_MRunner_sum_0 : decode y_MRunner_sum.2.1 0 = .ok (.aload_n 0, 1) := by decide +kernel
theorem d_MRunner_sum_1 : decode y_MRunner_sum.2.1 1 = .ok (.invokevirtual 251, 3) := by decide +kernel
theorem d_MRunner_sum_4 : decode y_MRunner_sum.2.1 4 = .ok (.istore_n 1, 1) := by decide +kernel
theorem d_MRunner_sum_5 : decode y_MRunner_sum.2.1 5 = .ok (.aload_n 0, 1) := by decide +kernel
theorem d_MRunner_sum_6 : decode y_MRunner_sum.2.1 6 = .ok (.bipush 43, 2) := by decide +kernel
theorem d_MRunner_sum_8 : decode y_MRunner_sum.2.1 8 = .ok (.invokevirtual 242, 3) := by decide +kernel
theorem d_MRunner_sum_11 : decode y_MRunner_sum.2.1 11 = .ok (.ifCond .ne 12, 3) := by decide +kernel
theorem d_MRunner_sum_14 : decode y_MRunner_sum.2.1 14 = .ok (.aload_n 0, 1) := by decide +kernel
theorem d_MRunner_sum_15 : decode y_MRunner_sum.2.1 15 = .ok (.bipush 45, 2) := by decide +kernel
theorem d_MRunner_sum_17 : decode y_MRunner_sum.2.1 17 = .ok (.invokevirtual 242, 3) := by decide +kernel
theorem d_MRunner_sum_20 : decode y_MRunner_sum.2.1 20 = .ok (.ifCond .eq 66, 3) := by decide +kernel
theorem d_MRunner_sum_23 : decode y_MRunner_sum.2.1 23 = .ok (.aload_n 0, 1) := by decide +kernel
theorem d_MRunner_sum_24 : decode y_MRunner_sum.2.1 24 = .ok (.getfield 108, 3) := by decide +kernel
theorem d_MRunner_sum_27 : decode y_MRunner_sum.2.1 27 = .ok (.istore_n 2, 1) := by decide +kernel
theorem d_MRunner_sum_28 : decode y_MRunner_sum.2.1 28 = .ok (.aload_n 0, 1) := by decide +kernel
theorem d_MRunner_sum_29 : decode y_MRunner_sum.2.1 29 = .ok (.dup, 1) := by decide +kernel
theorem d_MRunner_sum_30 : decode y_MRunner_sum.2.1 30 = .ok (.getfield 108, 3) := by decide +kernel
theorem d_MRunner_sum_33 : decode y_MRunner_sum.2.1 33 = .ok (.iconst 1, 1) := by decide +kernel
theorem d_MRunner_sum_34 : decode y_MRunner_sum.2.1 34 = .ok (.iadd, 1) := by decide +kernel
theorem d_MRunner_sum_35 : decode y_MRunner_sum.2.1 35 = .ok (.putfield 108, 3) := by decide +kernel
theorem d_MRunner_sum_38 : decode y_MRunner_sum.2.1 38 = .ok (.aload_n 0, 1) := by decide +kernel
theorem d_MRunner_sum_39 : decode y_MRunner_sum.2.1 39 = .ok (.invokevirtual 251, 3) := by decide +kernel
theorem d_MRunner_sum_42 : decode y_MRunner_sum.2.1 42 = .ok (.istore_n 3, 1) := by decide +kernel
theorem d_MRunner_sum_43 : decode y_MRunner_sum.2.1 43 = .ok (.aload_n 0, 1) := by decide +kernel
theorem d_MRunner_sum_44 : decode y_MRunner_sum.2.1 44 = .ok (.getfield 25, 3) := by decide +kernel
theorem d_MRunner_sum_47 : decode y_MRunner_sum.2.1 47 = .ok (.getfield 122, 3) := by decide +kernel
theorem d_MRunner_sum_50 : decode y_MRunner_sum.2.1 50 = .ok (.iload_n 2, 1) := by decide +kernel
theorem d_MRunner_sum_51 : decode y_MRunner_sum.2.1 51 = .ok (.iaload, 1) := by decide +kernel
theorem d_MRunner_sum_52 : decode y_MRunner_sum.2.1 52 = .ok (.aload_n 0, 1) := by decide +kernel
theorem d_MRunner_sum_53 : decode y_MRunner_sum.2.1 53 = .ok (.getfield 25, 3) := by decide +kernel
theorem d_MRunner_sum_56 : decode y_MRunner_sum.2.1 56 = .ok (.getfield 131, 3) := by decide +kernel
theorem d_MRunner_sum_59 : decode y_MRunner_sum.2.1 59 = .ok (.iload_n 2, 1) := by decide +kernel
theorem d_MRunner_sum_60 : decode y_MRunner_sum.2.1 60 = .ok (.iaload, 1) := by decide +kernel
theorem d_MRunner_sum_61 : decode y_MRunner_sum.2.1 61 = .ok (.bipush 43, 2) := by decide +kernel
theorem d_MRunner_sum_63 : decode y_MRunner_sum.2.1 63 = .ok (.if_icmp .ne 11, 3) := by decide +kernel
theorem d_MRunner_sum_66 : decode y_MRunner_sum.2.1 66 = .ok (.iload_n 1, 1) := by decide +kernel
theorem d_MRunner_sum_67 : decode y_MRunner_sum.2.1 67 = .ok (.i2l, 1) := by decide +kernel
theorem d_MRunner_sum_68 : decode y_MRunner_sum.2.1 68 = .ok (.iload_n 3, 1) := by decide +kernel
theorem d_MRunner_sum_69 : decode y_MRunner_sum.2.1 69 = .ok (.i2l, 1) := by decide +kernel
theorem d_MRunner_sum_70 : decode y_MRunner_sum.2.1 70 = .ok (.ladd, 1) := by decide +kernel
theorem d_MRunner_sum_71 : decode y_MRunner_sum.2.1 71 = .ok (.goto 8, 3) := by decide +kernel
theorem d_MRunner_sum_74 : decode y_MRunner_sum.2.1 74 = .ok (.iload_n 1, 1) := by decide +kernel
theorem d_MRunner_sum_75 : decode y_MRunner_sum.2.1 75 = .ok (.i2l, 1) := by decide +kernel
theorem d_MRunner_sum_76 : decode y_MRunner_sum.2.1 76 = .ok (.iload_n 3, 1) := by decide +kernel
theorem d_MRunner_sum_77 : decode y_MRunner_sum.2.1 77 = .ok (.i2l, 1) := by decide +kernel
theorem d_MRunner_sum_78 : decode y_MRunner_sum.2.1 78 = .ok (.lsub, 1) := by decide +kernel
theorem d_MRunner_sum_79 : decode y_MRunner_sum.2.1 79 = .ok (.invokestatic 167, 3) := by decide +kernel
theorem d_MRunner_sum_82 : decode y_MRunner_sum.2.1 82 = .ok (.istore_n 1, 1) := by decide +kernel
theorem d_MRunner_sum_83 : decode y_MRunner_sum.2.1 83 = .ok (.goto (-78), 3) := by decide +kernel
theorem d_MRunner_sum_86 : decode y_MRunner_sum.2.1 86 = .ok (.iload_n 1, 1) := by decide +kernel
theorem d_MRunner_sum_87 : decode y_MRunner_sum.2.1 87 = .ok (.ireturn, 1) := by decide +kernel
theorem s_MRunner_sum : ab_Stat y_MRunner_sum 0 := ⟨(k12 25 rfl rfl), (k1 22 rfl rfl), ⟨by decide, by decide⟩, by decide +kernel⟩
theorem i_MRunner_sum : Cond.instanceMethod y_MRunner_sum.1 ∈ ab_T := (k12 24 rfl rfl)
theorem v_MRunner_sum : Cond.selects "WorldEngineModel$Runner" y_MRunner_sum.1 y_MRunner_sum.1 ∈ ab_T := ab_s (List.mem_of_getElem? (i := 184) rfl) rfl
def B_MRunner_sum_79 (N : Nat) (o : Orc_RunE) (p0 : Nat) (kq5 : Int32 → Hp → Option (Int32 × Hp)) (w0 : Int32) (w1 : Int64) (H : Hp) : Option (Int32 × Hp) :=
    bC (F_M_held N w0 w1 H) fun v37 H38 =>
    kq5 v37 H38
set_option maxRecDepth 20000 in
set_option maxHeartbeats 2000000 in
theorem mB_MRunner_sum_79 {N : Nat} {o : Orc_RunE} (hmo : mo_RunE o) {p0 : Nat} {kq5 : Int32 → Hp → Option (Int32 × Hp)} (hm5 : ∀ (l1 : Int32) (H : Hp) (r : Int32 × Hp), kq5 l1 H = some r → Sa H r.2) {w0 : Int32} {w1 : Int64} {H : Hp} {r : Int32 × Hp} (hF : B_MRunner_sum_79 N o p0 kq5 w0 w1 H = some r) : Sa H r.2 := by
  unfold B_MRunner_sum_79 at hF
  have hm := Sa.rf H
  obtain ⟨v40, H41, z39, hG⟩ := bC_s hF; clear hF
  replace hm : Sa H H41 := hm.tr (m_M_held z39)
  exact hm.tr (hm5 v40 H41 r hG)
set_option maxRecDepth 20000 in
set_option maxHeartbeats 2000000 in
theorem kB_MRunner_sum_79 {N : Nat} {o : Orc_RunE} {fr lo : Nat} (ho : ok_RunE o fr lo) (hmo : mo_RunE o) {p0 : Nat} {kq5 : Int32 → Hp → Option (Int32 × Hp)} (hm5 : ∀ (l1 : Int32) (H : Hp) (r : Int32 × Hp), kq5 l1 H = some r → Sa H r.2) (hk5 : ∀ (l1 : Int32) (H : Hp) (r : Int32 × Hp), kq5 l1 H = some r → ab_V y_MRunner_sum { frames := fr + 2, cells := 0, slots := 0, locals := lo + 54 } (po (.returned (some (.int r.1))) r.2) 0 0 0 0 5 [some (.ref p0), some (.int l1), none, none] [] (hpw H)) {w0 : Int32} {w1 : Int64} {H : Hp} {r : Int32 × Hp} (hF : B_MRunner_sum_79 N o p0 kq5 w0 w1 H = some r) : ab_V y_MRunner_sum { frames := fr + 2, cells := 0, slots := 0, locals := lo + 54 } (po (.returned (some (.int r.1))) r.2) 0 0 0 0 79 [some (.ref p0), none, none, none] [.long w1, .int w0] (hpw H) := by
  unfold B_MRunner_sum_79 at hF
  obtain ⟨v37, H38, z36, hG⟩ := bC_s hF; clear hF
  refine hp_callSN_a (v := .int v37) (H1 := H38) (As := [.int w0, .long w1]) (rest := []) d_MRunner_sum_79 (k_M_held z36) (ab_mkC s_M_held (show 0 + 1 ≤ fr + 2 from by have := ho.1; omega) (show 8 + (3 + 11) + 0 ≤ lo + 54 from by have := ho.2.1; omega) (Nat.le_refl 0) (Nat.le_refl 0)) (k12 74 rfl rfl) t_M_held rfl (Nat.le_of_ble_eq_true rfl) ?_
  have s_5 : Sa H H38 := (m_M_held z36)
  refine ab_istore_n (lv' := [some (.ref p0), some (.int v37), none, none]) d_MRunner_sum_82 rfl (by decide) rfl ?_
  refine ab_goto (tgt := 5) d_MRunner_sum_83 (by decide) ?_
  exact hk5 v37 H38 r hG
def B_MRunner_sum_23 (N : Nat) (o : Orc_RunE) (p0 : Nat) (kq5 : Int32 → Hp → Option (Int32 × Hp)) (l1 : Int32) (H : Hp) : Option (Int32 × Hp) :=
    ck (H.sh[p0]? = some (15, 0)) <|
    bnd ((H.D p0 11)) fun x11 =>
    bnd ((H.D p0 11)) fun x12 =>
    bnd (H.sD p0 11 (x12 + (1 : Int32))) fun H13 =>
    bC (F_MRunner_product N o p0 H13) fun v15 H16 =>
    rf (H16.P p0 0) fun a17 =>
    ck (H16.sh[a17]? = some (14, 0)) <|
    rf (H16.P a17 8) fun a20 =>
    ar H16 100 a20 fun n22 =>
    ck (inb x11 n22) <|
    bnd ((H16.D a20 (x11).toNatClampNeg)) fun x25 =>
    rf (H16.P p0 0) fun a26 =>
    ck (H16.sh[a26]? = some (14, 0)) <|
    rf (H16.P a26 3) fun a29 =>
    ar H16 100 a29 fun n31 =>
    ck (inb x11 n31) <|
    bnd ((H16.D a29 (x11).toNatClampNeg)) fun x34 =>
    if x34 = (43 : Int32) then
    B_MRunner_sum_79 N o p0 kq5 x25 (((l1 : Int32).toInt64) + ((v15 : Int32).toInt64)) H16
    else
    B_MRunner_sum_79 N o p0 kq5 x25 (((l1 : Int32).toInt64) - ((v15 : Int32).toInt64)) H16
set_option maxRecDepth 20000 in
set_option maxHeartbeats 2000000 in
theorem mB_MRunner_sum_23 {N : Nat} {o : Orc_RunE} (hmo : mo_RunE o) {p0 : Nat} {kq5 : Int32 → Hp → Option (Int32 × Hp)} (hm5 : ∀ (l1 : Int32) (H : Hp) (r : Int32 × Hp), kq5 l1 H = some r → Sa H r.2) {l1 : Int32} {H : Hp} {r : Int32 × Hp} (hF : B_MRunner_sum_23 N o p0 kq5 l1 H = some r) : Sa H r.2 := by
  unfold B_MRunner_sum_23 at hF
  have hm := Sa.rf H
  obtain ⟨q42, hG⟩ := ck_s hF; clear hF
  obtain ⟨x43, -, hF⟩ := bnd_g hG; clear hG
  obtain ⟨x44, -, hG⟩ := bnd_g hF; clear hF
  obtain ⟨H45, eH45, hF⟩ := bnd_g hG; clear hG
  replace hm : Sa H H45 := by rw [eH45]; exact hm
  obtain ⟨v47, H48, z46, hG⟩ := bC_s hF; clear hF
  replace hm : Sa H H48 := hm.tr (m_MRunner_product hmo z46)
  obtain ⟨a49, e50, hF⟩ := rf_s hG; clear hG
  obtain ⟨q51, hG⟩ := ck_s hF; clear hF
  obtain ⟨a52, e53, hF⟩ := rf_s hG; clear hG
  obtain ⟨n54, q55, hG⟩ := ar_s hF; clear hF
  obtain ⟨q56, hF⟩ := ck_s hG; clear hG
  obtain ⟨x57, -, hG⟩ := bnd_g hF; clear hF
  obtain ⟨a58, e59, hF⟩ := rf_s hG; clear hG
  obtain ⟨q60, hG⟩ := ck_s hF; clear hF
  obtain ⟨a61, e62, hF⟩ := rf_s hG; clear hG
  obtain ⟨n63, q64, hG⟩ := ar_s hF; clear hF
  obtain ⟨q65, hF⟩ := ck_s hG; clear hG
  obtain ⟨x66, -, hG⟩ := bnd_g hF; clear hF
  rcases ite_s hG with ⟨q_9, hF⟩ | ⟨q_9, hF⟩
  · clear hG
    exact hm.tr (mB_MRunner_sum_79 hmo hm5 hF)
  · clear hG
    exact hm.tr (mB_MRunner_sum_79 hmo hm5 hF)
set_option maxRecDepth 20000 in
set_option maxHeartbeats 2000000 in
theorem kB_MRunner_sum_23 {N : Nat} {o : Orc_RunE} {fr lo : Nat} (ho : ok_RunE o fr lo) (hmo : mo_RunE o) {p0 : Nat} {kq5 : Int32 → Hp → Option (Int32 × Hp)} (hm5 : ∀ (l1 : Int32) (H : Hp) (r : Int32 × Hp), kq5 l1 H = some r → Sa H r.2) (hk5 : ∀ (l1 : Int32) (H : Hp) (r : Int32 × Hp), kq5 l1 H = some r → ab_V y_MRunner_sum { frames := fr + 2, cells := 0, slots := 0, locals := lo + 54 } (po (.returned (some (.int r.1))) r.2) 0 0 0 0 5 [some (.ref p0), some (.int l1), none, none] [] (hpw H)) {l1 : Int32} {H : Hp} {r : Int32 × Hp} (hF : B_MRunner_sum_23 N o p0 kq5 l1 H = some r) : ab_V y_MRunner_sum { frames := fr + 2, cells := 0, slots := 0, locals := lo + 54 } (po (.returned (some (.int r.1))) r.2) 0 0 0 0 23 [some (.ref p0), some (.int l1), none, none] [] (hpw H) := by
  unfold B_MRunner_sum_23 at hF
  refine ab_aload_n d_MRunner_sum_23 rfl rfl rfl ?_
  obtain ⟨q10, hG⟩ := ck_s hF; clear hF
  refine hp_getI (f := 11) d_MRunner_sum_24 q10 (by decide) rfl (by decide) (k9 194 rfl rfl) rfl ?_
  refine ab_topi (fun x11 ex11 => ?_)
  replace hG := bnd_s ex11 hG
  refine ab_istore_n (lv' := [some (.ref p0), some (.int l1), some (.int x11), none]) d_MRunner_sum_27 rfl (by decide) rfl ?_
  refine ab_aload_n d_MRunner_sum_28 rfl rfl rfl ?_
  refine ab_dup d_MRunner_sum_29 rfl ?_
  refine hp_getI (f := 11) d_MRunner_sum_30 q10 (by decide) rfl (by decide) (k9 194 rfl rfl) rfl ?_
  refine ab_topi (fun x12 ex12 => ?_)
  replace hG := bnd_s ex12 hG
  refine ab_iconst (v := 1) d_MRunner_sum_33 (by decide) ?_
  refine ab_iadd d_MRunner_sum_34 ?_
  refine hp_putI (v := x12 + (1 : Int32)) (f := 11) d_MRunner_sum_35 q10 (by decide) rfl (by decide) (k9 194 rfl rfl) rfl rfl (fun _ => rfl) (fun _ => rfl) rfl ?_
  refine hp_gen (fun H13 eH13 => ?_)
  replace hG := bnd_s eH13 hG
  have s_3 : Sa H H13 := by rw [eH13]; exact Sa.rf _
  refine ab_aload_n d_MRunner_sum_38 rfl rfl rfl ?_
  obtain ⟨v15, H16, z14, hF⟩ := bC_s hG; clear hG
  refine hp_callV_a (v := .int v15) (H1 := H16) (As := []) (rest := []) d_MRunner_sum_39 (k_MRunner_product ho hmo z14) (ab_mkC s_MRunner_product (show (fr + 1) + 1 ≤ fr + 2 from by have := ho.1; omega) (show 8 + (4 + 11) + (lo + 31) ≤ lo + 54 from by have := ho.2.1; omega) (Nat.le_refl 0) (Nat.le_refl 0)) (k12 26 rfl rfl) i_MRunner_product v_MRunner_product (by rw [(s_3).1]; exact q10) (by decide) rfl rfl (Nat.le_of_ble_eq_true rfl) ?_
  have s_4 : Sa H H16 := (s_3).tr (m_MRunner_product hmo z14)
  refine ab_istore_n (lv' := [some (.ref p0), some (.int l1), some (.int x11), some (.int v15)]) d_MRunner_sum_42 rfl (by decide) rfl ?_
  refine ab_aload_n d_MRunner_sum_43 rfl rfl rfl ?_
  obtain ⟨a17, e18, hG⟩ := rf_s hF; clear hF
  refine hp_getR (f := 0) d_MRunner_sum_44 (by rw [(s_4).1]; exact q10) (by decide) rfl (by decide) (k9 183 rfl rfl) rfl e18 ?_
  obtain ⟨q19, hF⟩ := ck_s hG; clear hG
  rw [(s_4).1] at q19
  obtain ⟨a20, e21, hG⟩ := rf_s hF; clear hF
  refine hp_getRN (f := 8) d_MRunner_sum_47 (by rw [(s_4).1]; exact q19) (by decide) rfl (by decide) (k8 170 rfl rfl) rfl e21 ?_
  refine ab_iload_n d_MRunner_sum_50 rfl rfl ?_
  obtain ⟨n22, q23, hF⟩ := ar_s hG; clear hG
  rw [(s_4).1] at q23
  obtain ⟨q24, hG⟩ := ck_s hF; clear hF
  refine hp_iald d_MRunner_sum_51 tI (by rw [(s_4).1]; exact q23) q24 ?_
  refine ab_topi (fun x25 ex25 => ?_)
  replace hG := bnd_s ex25 hG
  refine ab_aload_n d_MRunner_sum_52 rfl rfl rfl ?_
  obtain ⟨a26, e27, hF⟩ := rf_s hG; clear hG
  refine hp_getR (f := 0) d_MRunner_sum_53 (by rw [(s_4).1]; exact q10) (by decide) rfl (by decide) (k9 183 rfl rfl) rfl e27 ?_
  obtain ⟨q28, hG⟩ := ck_s hF; clear hF
  rw [(s_4).1] at q28
  obtain ⟨a29, e30, hF⟩ := rf_s hG; clear hG
  refine hp_getRN (f := 3) d_MRunner_sum_56 (by rw [(s_4).1]; exact q28) (by decide) rfl (by decide) (k8 163 rfl rfl) rfl e30 ?_
  refine ab_iload_n d_MRunner_sum_59 rfl rfl ?_
  obtain ⟨n31, q32, hG⟩ := ar_s hF; clear hF
  rw [(s_4).1] at q32
  obtain ⟨q33, hF⟩ := ck_s hG; clear hG
  refine hp_iald d_MRunner_sum_60 tI (by rw [(s_4).1]; exact q32) q33 ?_
  refine ab_topi (fun x34 ex34 => ?_)
  replace hF := bnd_s ex34 hF
  refine ab_bipush (v := 43) d_MRunner_sum_61 (by decide) ?_
  refine ab_icmp_ne (tgt := 74) d_MRunner_sum_63 (by decide) (fun q35 => ?_) (fun q35 => ?_)
  · rw [if_neg q35] at hF
    refine ab_iload_n d_MRunner_sum_74 rfl rfl ?_
    refine ab_i2l d_MRunner_sum_75 ?_
    refine ab_iload_n d_MRunner_sum_76 rfl rfl ?_
    refine ab_i2l d_MRunner_sum_77 ?_
    refine ab_lsub d_MRunner_sum_78 ?_
    refine ab_le (lv' := [some (.ref p0), none, none, none]) ⟨rfl, trivial⟩ ?_
    exact kB_MRunner_sum_79 ho hmo hm5 hk5 hF
  · rw [if_pos q35] at hF
    refine ab_iload_n d_MRunner_sum_66 rfl rfl ?_
    refine ab_i2l d_MRunner_sum_67 ?_
    refine ab_iload_n d_MRunner_sum_68 rfl rfl ?_
    refine ab_i2l d_MRunner_sum_69 ?_
    refine ab_ladd d_MRunner_sum_70 ?_
    refine ab_goto (tgt := 79) d_MRunner_sum_71 (by decide) ?_
    refine ab_le (lv' := [some (.ref p0), none, none, none]) ⟨rfl, trivial⟩ ?_
    exact kB_MRunner_sum_79 ho hmo hm5 hk5 hF
def B_MRunner_sum_5 (N : Nat) (o : Orc_RunE) (p0 : Nat) : Nat → Int32 → Hp → Option (Int32 × Hp)
  | 0, _, _ => none
  | n + 1, l1, H =>
    ck (H.sh[p0]? = some (15, 0)) <|
    bC (F_MRunner_is N p0 (43 : Int32) H) fun v7 H8 =>
    if v7 = (0 : Int32) then
    bC (F_MRunner_is N p0 (45 : Int32) H8) fun v69 H70 =>
    if v69 = (0 : Int32) then
    some (l1, H70)
    else
    B_MRunner_sum_23 N o p0 (fun l1 H => B_MRunner_sum_5 N o p0 n l1 H) l1 H70
    else
    B_MRunner_sum_23 N o p0 (fun l1 H => B_MRunner_sum_5 N o p0 n l1 H) l1 H8
termination_by structural n => n
set_option maxRecDepth 20000 in
set_option maxHeartbeats 2000000 in
theorem mB_MRunner_sum_5 {N : Nat} {o : Orc_RunE} (hmo : mo_RunE o) {p0 : Nat} : ∀ (n : Nat) (l1 : Int32) (H : Hp) (r : Int32 × Hp), B_MRunner_sum_5 N o p0 n l1 H = some r → Sa H r.2 := by
  intro n
  induction n with
  | zero => intro l1 H r hF; rw [B_MRunner_sum_5] at hF; cases hF
  | succ n ih =>
    intro l1 H r hF
    rw [B_MRunner_sum_5] at hF
    have hm := Sa.rf H
    obtain ⟨q72, hG⟩ := ck_s hF; clear hF
    obtain ⟨v74, H75, z73, hF⟩ := bC_s hG; clear hG
    replace hm : Sa H H75 := hm.tr (m_MRunner_is z73)
    rcases ite_s hF with ⟨q_12, hG⟩ | ⟨q_12, hG⟩
    · clear hF
      obtain ⟨v78, H79, z77, hF⟩ := bC_s hG; clear hG
      replace hm : Sa H H79 := hm.tr (m_MRunner_is z77)
      rcases ite_s hF with ⟨q_14, hG⟩ | ⟨q_14, hG⟩
      · clear hF
        have hr := Option.some.inj hG; subst hr
        exact hm
      · clear hF
        exact hm.tr (mB_MRunner_sum_23 hmo ih hG)
    · clear hF
      exact hm.tr (mB_MRunner_sum_23 hmo ih hG)
set_option maxRecDepth 20000 in
set_option maxHeartbeats 2000000 in
theorem kB_MRunner_sum_5 {N : Nat} {o : Orc_RunE} {fr lo : Nat} (ho : ok_RunE o fr lo) (hmo : mo_RunE o) {p0 : Nat} : ∀ (n : Nat) (l1 : Int32) (H : Hp) (r : Int32 × Hp), B_MRunner_sum_5 N o p0 n l1 H = some r → ab_V y_MRunner_sum { frames := fr + 2, cells := 0, slots := 0, locals := lo + 54 } (po (.returned (some (.int r.1))) r.2) 0 0 0 0 5 [some (.ref p0), some (.int l1), none, none] [] (hpw H) := by
  intro n
  induction n with
  | zero => intro l1 H r hF; rw [B_MRunner_sum_5] at hF; cases hF
  | succ n ih =>
    intro l1 H r hF
    rw [B_MRunner_sum_5] at hF
    refine ab_aload_n d_MRunner_sum_5 rfl rfl rfl ?_
    refine ab_bipush (v := 43) d_MRunner_sum_6 (by decide) ?_
    obtain ⟨q5, hG⟩ := ck_s hF; clear hF
    obtain ⟨v7, H8, z6, hF⟩ := bC_s hG; clear hG
    refine hp_callV_a (v := .int v7) (H1 := H8) (As := [.int 43]) (rest := []) d_MRunner_sum_8 (k_MRunner_is z6) (ab_mkC s_MRunner_is (show 0 + 1 ≤ fr + 2 from by have := ho.1; omega) (show 8 + (2 + 11) + 0 ≤ lo + 54 from by have := ho.2.1; omega) (Nat.le_refl 0) (Nat.le_refl 0)) (k12 34 rfl rfl) i_MRunner_is v_MRunner_is q5 (by decide) rfl rfl (Nat.le_of_ble_eq_true rfl) ?_
    have s_2 : Sa H H8 := (m_MRunner_is z6)
    refine ab_if_ne (tgt := 23) d_MRunner_sum_11 (by decide) (fun q9 => ?_) (fun q9 => ?_)
    · rw [if_neg q9] at hF
      exact kB_MRunner_sum_23 ho hmo (mB_MRunner_sum_5 hmo n) ih hF
    · rw [if_pos q9] at hF
      refine ab_aload_n d_MRunner_sum_14 rfl rfl rfl ?_
      refine ab_bipush (v := 45) d_MRunner_sum_15 (by decide) ?_
      obtain ⟨v69, H70, z68, hG⟩ := bC_s hF; clear hF
      refine hp_callV_a (v := .int v69) (H1 := H70) (As := [.int 45]) (rest := []) d_MRunner_sum_17 (k_MRunner_is z68) (ab_mkC s_MRunner_is (show 0 + 1 ≤ fr + 2 from by have := ho.1; omega) (show 8 + (2 + 11) + 0 ≤ lo + 54 from by have := ho.2.1; omega) (Nat.le_refl 0) (Nat.le_refl 0)) (k12 34 rfl rfl) i_MRunner_is v_MRunner_is (by rw [(s_2).1]; exact q5) (by decide) rfl rfl (Nat.le_of_ble_eq_true rfl) ?_
      have s_10 : Sa H H70 := (s_2).tr (m_MRunner_is z68)
      refine ab_if_eq (tgt := 86) d_MRunner_sum_20 (by decide) (fun q71 => ?_) (fun q71 => ?_)
      · rw [if_pos q71] at hG
        refine ab_iload_n d_MRunner_sum_86 rfl rfl ?_
        exact ab_iret d_MRunner_sum_87 rfl (Nat.le_refl _) (Nat.le_refl _) (by have hr := Option.some.inj hG; subst hr; exact ⟨rfl, rfl⟩)
      · rw [if_neg q71] at hG
        exact kB_MRunner_sum_23 ho hmo (mB_MRunner_sum_5 hmo n) ih hG
def F_MRunner_sum (N : Nat) (o : Orc_RunE) (p0 : Nat) (H : Hp) : Option (Int32 × Hp) :=
    ck (H.sh[p0]? = some (15, 0)) <|
    bC (F_MRunner_product N o p0 H) fun v3 H4 =>
    B_MRunner_sum_5 N o p0 N v3 H4
set_option maxRecDepth 20000 in
set_option maxHeartbeats 2000000 in
theorem m_MRunner_sum {N : Nat} {o : Orc_RunE} (hmo : mo_RunE o) {p0 : Nat} {H : Hp} {r : Int32 × Hp} (hF : F_MRunner_sum N o p0 H = some r) : Sa H r.2 := by
  unfold F_MRunner_sum at hF
  have hm := Sa.rf H
  obtain ⟨q81, hG⟩ := ck_s hF; clear hF
  obtain ⟨v83, H84, z82, hF⟩ := bC_s hG; clear hG
  replace hm : Sa H H84 := hm.tr (m_MRunner_product hmo z82)
  exact hm.tr (mB_MRunner_sum_5 hmo N v83 H84 r hF)
set_option maxRecDepth 20000 in
set_option maxHeartbeats 2000000 in
theorem k_MRunner_sum {N : Nat} {o : Orc_RunE} {fr lo : Nat} (ho : ok_RunE o fr lo) (hmo : mo_RunE o) {p0 : Nat} {H : Hp} {r : Int32 × Hp} (hF : F_MRunner_sum N o p0 H = some r) : ab_M y_MRunner_sum { frames := fr + 2, cells := 0, slots := 0, locals := lo + 54 } [.ref p0] (hpw H) (po (.returned (some (.int r.1))) r.2) := by
  unfold F_MRunner_sum at hF
  refine ab_of2 (lv := [some (.ref p0), none, none, none]) 3 rfl rfl (Nat.le_of_ble_eq_true rfl) ?_
  refine ab_aload_n d_MRunner_sum_0 rfl rfl rfl ?_
  obtain ⟨q1, hG⟩ := ck_s hF; clear hF
  obtain ⟨v3, H4, z2, hF⟩ := bC_s hG; clear hG
  refine hp_callV_a (v := .int v3) (H1 := H4) (As := []) (rest := []) d_MRunner_sum_1 (k_MRunner_product ho hmo z2) (ab_mkC s_MRunner_product (show (fr + 1) + 1 ≤ fr + 2 from by have := ho.1; omega) (show 8 + (4 + 11) + (lo + 31) ≤ lo + 54 from by have := ho.2.1; omega) (Nat.le_refl 0) (Nat.le_refl 0)) (k12 26 rfl rfl) i_MRunner_product v_MRunner_product q1 (by decide) rfl rfl (Nat.le_of_ble_eq_true rfl) ?_
  have s_1 : Sa H H4 := (m_MRunner_product hmo z2)
  refine ab_istore_n (lv' := [some (.ref p0), some (.int v3), none, none]) d_MRunner_sum_4 rfl (by decide) rfl ?_
  exact kB_MRunner_sum_5 ho hmo N v3 H4 r hF
