def y_World_init : ab_Y := (⟨"WorldEngine$World", "<init>", "()V"⟩, prog_12_method_1_code, 1, none, [])
theorem d_World_init_0 : decode y_World_init.2.1 0 = .ok (.aload_n 0, 1) := by decide +kernel
theorem d_World_init_1 : decode y_World_init.2.1 1 = .ok (.invokespecial 1, 3) := by decide +kernel
theorem d_World_init_4 : decode y_World_init.2.1 4 = .ok (.aload_n 0, 1) := by decide +kernel
theorem d_World_init_5 : decode y_World_init.2.1 5 = .ok (.sipush 256, 3) := by decide +kernel
theorem d_World_init_8 : decode y_World_init.2.1 8 = .ok (.newarray .int, 2) := by decide +kernel
theorem d_World_init_10 : decode y_World_init.2.1 10 = .ok (.putfield 9, 3) := by decide +kernel
theorem d_World_init_13 : decode y_World_init.2.1 13 = .ok (.aload_n 0, 1) := by decide +kernel
theorem d_World_init_14 : decode y_World_init.2.1 14 = .ok (.sipush 256, 3) := by decide +kernel
theorem d_World_init_17 : decode y_World_init.2.1 17 = .ok (.newarray .int, 2) := by decide +kernel
theorem d_World_init_19 : decode y_World_init.2.1 19 = .ok (.putfield 13, 3) := by decide +kernel
theorem d_World_init_22 : decode y_World_init.2.1 22 = .ok (.aload_n 0, 1) := by decide +kernel
theorem d_World_init_23 : decode y_World_init.2.1 23 = .ok (.getfield 13, 3) := by decide +kernel
theorem d_World_init_26 : decode y_World_init.2.1 26 = .ok (.iconst (-1), 1) := by decide +kernel
theorem d_World_init_27 : decode y_World_init.2.1 27 = .ok (.invokestatic 16, 3) := by decide +kernel
theorem d_World_init_30 : decode y_World_init.2.1 30 = .ok (.aload_n 0, 1) := by decide +kernel
theorem d_World_init_31 : decode y_World_init.2.1 31 = .ok (.sipush 12288, 3) := by decide +kernel
theorem d_World_init_34 : decode y_World_init.2.1 34 = .ok (.newarray .int, 2) := by decide +kernel
theorem d_World_init_36 : decode y_World_init.2.1 36 = .ok (.putfield 24, 3) := by decide +kernel
theorem d_World_init_39 : decode y_World_init.2.1 39 = .ok (.aload_n 0, 1) := by decide +kernel
theorem d_World_init_40 : decode y_World_init.2.1 40 = .ok (.sipush 1792, 3) := by decide +kernel
theorem d_World_init_43 : decode y_World_init.2.1 43 = .ok (.newarray .int, 2) := by decide +kernel
theorem d_World_init_45 : decode y_World_init.2.1 45 = .ok (.putfield 27, 3) := by decide +kernel
theorem d_World_init_48 : decode y_World_init.2.1 48 = .ok (.aload_n 0, 1) := by decide +kernel
theorem d_World_init_49 : decode y_World_init.2.1 49 = .ok (.bipush 32, 2) := by decide +kernel
theorem d_World_init_51 : decode y_World_init.2.1 51 = .ok (.newarray .int, 2) := by decide +kernel
theorem d_World_init_53 : decode y_World_init.2.1 53 = .ok (.putfield 30, 3) := by decide +kernel
theorem d_World_init_56 : decode y_World_init.2.1 56 = .ok (.return_, 1) := by decide +kernel
def y_World_clear : ab_Y := (⟨"WorldEngine$World", "clear", "(II)V"⟩, prog_12_method_2_code, 3, none, [])
theorem d_World_clear_0 : decode y_World_clear.2.1 0 = .ok (.aload_n 0, 1) := by decide +kernel
theorem d_World_clear_1 : decode y_World_clear.2.1 1 = .ok (.iconst 0, 1) := by decide +kernel
theorem d_World_clear_2 : decode y_World_clear.2.1 2 = .ok (.putfield 33, 3) := by decide +kernel
theorem d_World_clear_5 : decode y_World_clear.2.1 5 = .ok (.aload_n 0, 1) := by decide +kernel
theorem d_World_clear_6 : decode y_World_clear.2.1 6 = .ok (.iload_n 1, 1) := by decide +kernel
theorem d_World_clear_7 : decode y_World_clear.2.1 7 = .ok (.putfield 37, 3) := by decide +kernel
theorem d_World_clear_10 : decode y_World_clear.2.1 10 = .ok (.aload_n 0, 1) := by decide +kernel
theorem d_World_clear_11 : decode y_World_clear.2.1 11 = .ok (.iconst 0, 1) := by decide +kernel
theorem d_World_clear_12 : decode y_World_clear.2.1 12 = .ok (.putfield 40, 3) := by decide +kernel
theorem d_World_clear_15 : decode y_World_clear.2.1 15 = .ok (.aload_n 0, 1) := by decide +kernel
theorem d_World_clear_16 : decode y_World_clear.2.1 16 = .ok (.iconst 0, 1) := by decide +kernel
theorem d_World_clear_17 : decode y_World_clear.2.1 17 = .ok (.putfield 43, 3) := by decide +kernel
theorem d_World_clear_20 : decode y_World_clear.2.1 20 = .ok (.aload_n 0, 1) := by decide +kernel
theorem d_World_clear_21 : decode y_World_clear.2.1 21 = .ok (.iconst 0, 1) := by decide +kernel
theorem d_World_clear_22 : decode y_World_clear.2.1 22 = .ok (.putfield 46, 3) := by decide +kernel
theorem d_World_clear_25 : decode y_World_clear.2.1 25 = .ok (.aload_n 0, 1) := by decide +kernel
theorem d_World_clear_26 : decode y_World_clear.2.1 26 = .ok (.getfield 9, 3) := by decide +kernel
theorem d_World_clear_29 : decode y_World_clear.2.1 29 = .ok (.iconst 0, 1) := by decide +kernel
theorem d_World_clear_30 : decode y_World_clear.2.1 30 = .ok (.invokestatic 16, 3) := by decide +kernel
theorem d_World_clear_33 : decode y_World_clear.2.1 33 = .ok (.aload_n 0, 1) := by decide +kernel
theorem d_World_clear_34 : decode y_World_clear.2.1 34 = .ok (.getfield 13, 3) := by decide +kernel
theorem d_World_clear_37 : decode y_World_clear.2.1 37 = .ok (.iconst (-1), 1) := by decide +kernel
theorem d_World_clear_38 : decode y_World_clear.2.1 38 = .ok (.invokestatic 16, 3) := by decide +kernel
theorem d_World_clear_41 : decode y_World_clear.2.1 41 = .ok (.aload_n 0, 1) := by decide +kernel
theorem d_World_clear_42 : decode y_World_clear.2.1 42 = .ok (.iconst 0, 1) := by decide +kernel
theorem d_World_clear_43 : decode y_World_clear.2.1 43 = .ok (.putfield 49, 3) := by decide +kernel
theorem d_World_clear_46 : decode y_World_clear.2.1 46 = .ok (.aload_n 0, 1) := by decide +kernel
theorem d_World_clear_47 : decode y_World_clear.2.1 47 = .ok (.iload_n 2, 1) := by decide +kernel
theorem d_World_clear_48 : decode y_World_clear.2.1 48 = .ok (.putfield 52, 3) := by decide +kernel
theorem d_World_clear_51 : decode y_World_clear.2.1 51 = .ok (.aload_n 0, 1) := by decide +kernel
theorem d_World_clear_52 : decode y_World_clear.2.1 52 = .ok (.iconst 0, 1) := by decide +kernel
theorem d_World_clear_53 : decode y_World_clear.2.1 53 = .ok (.putfield 55, 3) := by decide +kernel
theorem d_World_clear_56 : decode y_World_clear.2.1 56 = .ok (.aload_n 0, 1) := by decide +kernel
theorem d_World_clear_57 : decode y_World_clear.2.1 57 = .ok (.iconst 0, 1) := by decide +kernel
theorem d_World_clear_58 : decode y_World_clear.2.1 58 = .ok (.putfield 58, 3) := by decide +kernel
theorem d_World_clear_61 : decode y_World_clear.2.1 61 = .ok (.return_, 1) := by decide +kernel
def y_World_copyFrom : ab_Y := (⟨"WorldEngine$World", "copyFrom", "(LWorldEngine$World;)V"⟩, prog_12_method_3_code, 2, none, [])
theorem d_World_copyFrom_0 : decode y_World_copyFrom.2.1 0 = .ok (.aload_n 0, 1) := by decide +kernel
theorem d_World_copyFrom_1 : decode y_World_copyFrom.2.1 1 = .ok (.aload_n 1, 1) := by decide +kernel
theorem d_World_copyFrom_2 : decode y_World_copyFrom.2.1 2 = .ok (.getfield 33, 3) := by decide +kernel
theorem d_World_copyFrom_5 : decode y_World_copyFrom.2.1 5 = .ok (.putfield 33, 3) := by decide +kernel
theorem d_World_copyFrom_8 : decode y_World_copyFrom.2.1 8 = .ok (.aload_n 0, 1) := by decide +kernel
theorem d_World_copyFrom_9 : decode y_World_copyFrom.2.1 9 = .ok (.aload_n 1, 1) := by decide +kernel
theorem d_World_copyFrom_10 : decode y_World_copyFrom.2.1 10 = .ok (.getfield 37, 3) := by decide +kernel
theorem d_World_copyFrom_13 : decode y_World_copyFrom.2.1 13 = .ok (.putfield 37, 3) := by decide +kernel
theorem d_World_copyFrom_16 : decode y_World_copyFrom.2.1 16 = .ok (.aload_n 0, 1) := by decide +kernel
theorem d_World_copyFrom_17 : decode y_World_copyFrom.2.1 17 = .ok (.aload_n 1, 1) := by decide +kernel
theorem d_World_copyFrom_18 : decode y_World_copyFrom.2.1 18 = .ok (.getfield 40, 3) := by decide +kernel
theorem d_World_copyFrom_21 : decode y_World_copyFrom.2.1 21 = .ok (.putfield 40, 3) := by decide +kernel
theorem d_World_copyFrom_24 : decode y_World_copyFrom.2.1 24 = .ok (.aload_n 0, 1) := by decide +kernel
theorem d_World_copyFrom_25 : decode y_World_copyFrom.2.1 25 = .ok (.aload_n 1, 1) := by decide +kernel
theorem d_World_copyFrom_26 : decode y_World_copyFrom.2.1 26 = .ok (.getfield 43, 3) := by decide +kernel
theorem d_World_copyFrom_29 : decode y_World_copyFrom.2.1 29 = .ok (.putfield 43, 3) := by decide +kernel
theorem d_World_copyFrom_32 : decode y_World_copyFrom.2.1 32 = .ok (.aload_n 0, 1) := by decide +kernel
theorem d_World_copyFrom_33 : decode y_World_copyFrom.2.1 33 = .ok (.aload_n 1, 1) := by decide +kernel
theorem d_World_copyFrom_34 : decode y_World_copyFrom.2.1 34 = .ok (.getfield 61, 3) := by decide +kernel
theorem d_World_copyFrom_37 : decode y_World_copyFrom.2.1 37 = .ok (.putfield 61, 3) := by decide +kernel
theorem d_World_copyFrom_40 : decode y_World_copyFrom.2.1 40 = .ok (.aload_n 0, 1) := by decide +kernel
theorem d_World_copyFrom_41 : decode y_World_copyFrom.2.1 41 = .ok (.aload_n 1, 1) := by decide +kernel
theorem d_World_copyFrom_42 : decode y_World_copyFrom.2.1 42 = .ok (.getfield 64, 3) := by decide +kernel
theorem d_World_copyFrom_45 : decode y_World_copyFrom.2.1 45 = .ok (.putfield 64, 3) := by decide +kernel
theorem d_World_copyFrom_48 : decode y_World_copyFrom.2.1 48 = .ok (.aload_n 0, 1) := by decide +kernel
theorem d_World_copyFrom_49 : decode y_World_copyFrom.2.1 49 = .ok (.aload_n 1, 1) := by decide +kernel
theorem d_World_copyFrom_50 : decode y_World_copyFrom.2.1 50 = .ok (.getfield 46, 3) := by decide +kernel
theorem d_World_copyFrom_53 : decode y_World_copyFrom.2.1 53 = .ok (.putfield 46, 3) := by decide +kernel
theorem d_World_copyFrom_56 : decode y_World_copyFrom.2.1 56 = .ok (.aload_n 1, 1) := by decide +kernel
theorem d_World_copyFrom_57 : decode y_World_copyFrom.2.1 57 = .ok (.getfield 9, 3) := by decide +kernel
theorem d_World_copyFrom_60 : decode y_World_copyFrom.2.1 60 = .ok (.iconst 0, 1) := by decide +kernel
theorem d_World_copyFrom_61 : decode y_World_copyFrom.2.1 61 = .ok (.aload_n 0, 1) := by decide +kernel
theorem d_World_copyFrom_62 : decode y_World_copyFrom.2.1 62 = .ok (.getfield 9, 3) := by decide +kernel
theorem d_World_copyFrom_65 : decode y_World_copyFrom.2.1 65 = .ok (.iconst 0, 1) := by decide +kernel
theorem d_World_copyFrom_66 : decode y_World_copyFrom.2.1 66 = .ok (.sipush 256, 3) := by decide +kernel
theorem d_World_copyFrom_69 : decode y_World_copyFrom.2.1 69 = .ok (.invokestatic 67, 3) := by decide +kernel
theorem d_World_copyFrom_72 : decode y_World_copyFrom.2.1 72 = .ok (.aload_n 1, 1) := by decide +kernel
theorem d_World_copyFrom_73 : decode y_World_copyFrom.2.1 73 = .ok (.getfield 13, 3) := by decide +kernel
theorem d_World_copyFrom_76 : decode y_World_copyFrom.2.1 76 = .ok (.iconst 0, 1) := by decide +kernel
theorem d_World_copyFrom_77 : decode y_World_copyFrom.2.1 77 = .ok (.aload_n 0, 1) := by decide +kernel
theorem d_World_copyFrom_78 : decode y_World_copyFrom.2.1 78 = .ok (.getfield 13, 3) := by decide +kernel
theorem d_World_copyFrom_81 : decode y_World_copyFrom.2.1 81 = .ok (.iconst 0, 1) := by decide +kernel
theorem d_World_copyFrom_82 : decode y_World_copyFrom.2.1 82 = .ok (.sipush 256, 3) := by decide +kernel
theorem d_World_copyFrom_85 : decode y_World_copyFrom.2.1 85 = .ok (.invokestatic 67, 3) := by decide +kernel
theorem d_World_copyFrom_88 : decode y_World_copyFrom.2.1 88 = .ok (.aload_n 0, 1) := by decide +kernel
theorem d_World_copyFrom_89 : decode y_World_copyFrom.2.1 89 = .ok (.aload_n 1, 1) := by decide +kernel
theorem d_World_copyFrom_90 : decode y_World_copyFrom.2.1 90 = .ok (.getfield 49, 3) := by decide +kernel
theorem d_World_copyFrom_93 : decode y_World_copyFrom.2.1 93 = .ok (.putfield 49, 3) := by decide +kernel
theorem d_World_copyFrom_96 : decode y_World_copyFrom.2.1 96 = .ok (.aload_n 0, 1) := by decide +kernel
theorem d_World_copyFrom_97 : decode y_World_copyFrom.2.1 97 = .ok (.aload_n 1, 1) := by decide +kernel
theorem d_World_copyFrom_98 : decode y_World_copyFrom.2.1 98 = .ok (.getfield 52, 3) := by decide +kernel
theorem d_World_copyFrom_101 : decode y_World_copyFrom.2.1 101 = .ok (.putfield 52, 3) := by decide +kernel
theorem d_World_copyFrom_104 : decode y_World_copyFrom.2.1 104 = .ok (.aload_n 1, 1) := by decide +kernel
theorem d_World_copyFrom_105 : decode y_World_copyFrom.2.1 105 = .ok (.getfield 24, 3) := by decide +kernel
theorem d_World_copyFrom_108 : decode y_World_copyFrom.2.1 108 = .ok (.iconst 0, 1) := by decide +kernel
theorem d_World_copyFrom_109 : decode y_World_copyFrom.2.1 109 = .ok (.aload_n 0, 1) := by decide +kernel
theorem d_World_copyFrom_110 : decode y_World_copyFrom.2.1 110 = .ok (.getfield 24, 3) := by decide +kernel
theorem d_World_copyFrom_113 : decode y_World_copyFrom.2.1 113 = .ok (.iconst 0, 1) := by decide +kernel
theorem d_World_copyFrom_114 : decode y_World_copyFrom.2.1 114 = .ok (.aload_n 0, 1) := by decide +kernel
theorem d_World_copyFrom_115 : decode y_World_copyFrom.2.1 115 = .ok (.getfield 49, 3) := by decide +kernel
theorem d_World_copyFrom_118 : decode y_World_copyFrom.2.1 118 = .ok (.aload_n 0, 1) := by decide +kernel
theorem d_World_copyFrom_119 : decode y_World_copyFrom.2.1 119 = .ok (.getfield 52, 3) := by decide +kernel
theorem d_World_copyFrom_122 : decode y_World_copyFrom.2.1 122 = .ok (.imul, 1) := by decide +kernel
theorem d_World_copyFrom_123 : decode y_World_copyFrom.2.1 123 = .ok (.invokestatic 67, 3) := by decide +kernel
theorem d_World_copyFrom_126 : decode y_World_copyFrom.2.1 126 = .ok (.aload_n 1, 1) := by decide +kernel
theorem d_World_copyFrom_127 : decode y_World_copyFrom.2.1 127 = .ok (.getfield 27, 3) := by decide +kernel
theorem d_World_copyFrom_130 : decode y_World_copyFrom.2.1 130 = .ok (.iconst 0, 1) := by decide +kernel
theorem d_World_copyFrom_131 : decode y_World_copyFrom.2.1 131 = .ok (.aload_n 0, 1) := by decide +kernel
theorem d_World_copyFrom_132 : decode y_World_copyFrom.2.1 132 = .ok (.getfield 27, 3) := by decide +kernel
theorem d_World_copyFrom_135 : decode y_World_copyFrom.2.1 135 = .ok (.iconst 0, 1) := by decide +kernel
theorem d_World_copyFrom_136 : decode y_World_copyFrom.2.1 136 = .ok (.aload_n 1, 1) := by decide +kernel
theorem d_World_copyFrom_137 : decode y_World_copyFrom.2.1 137 = .ok (.getfield 55, 3) := by decide +kernel
theorem d_World_copyFrom_140 : decode y_World_copyFrom.2.1 140 = .ok (.bipush 7, 2) := by decide +kernel
theorem d_World_copyFrom_142 : decode y_World_copyFrom.2.1 142 = .ok (.imul, 1) := by decide +kernel
theorem d_World_copyFrom_143 : decode y_World_copyFrom.2.1 143 = .ok (.invokestatic 67, 3) := by decide +kernel
theorem d_World_copyFrom_146 : decode y_World_copyFrom.2.1 146 = .ok (.aload_n 0, 1) := by decide +kernel
theorem d_World_copyFrom_147 : decode y_World_copyFrom.2.1 147 = .ok (.aload_n 1, 1) := by decide +kernel
theorem d_World_copyFrom_148 : decode y_World_copyFrom.2.1 148 = .ok (.getfield 55, 3) := by decide +kernel
theorem d_World_copyFrom_151 : decode y_World_copyFrom.2.1 151 = .ok (.putfield 55, 3) := by decide +kernel
theorem d_World_copyFrom_154 : decode y_World_copyFrom.2.1 154 = .ok (.aload_n 1, 1) := by decide +kernel
theorem d_World_copyFrom_155 : decode y_World_copyFrom.2.1 155 = .ok (.getfield 30, 3) := by decide +kernel
theorem d_World_copyFrom_158 : decode y_World_copyFrom.2.1 158 = .ok (.iconst 0, 1) := by decide +kernel
theorem d_World_copyFrom_159 : decode y_World_copyFrom.2.1 159 = .ok (.aload_n 0, 1) := by decide +kernel
theorem d_World_copyFrom_160 : decode y_World_copyFrom.2.1 160 = .ok (.getfield 30, 3) := by decide +kernel
theorem d_World_copyFrom_163 : decode y_World_copyFrom.2.1 163 = .ok (.iconst 0, 1) := by decide +kernel
theorem d_World_copyFrom_164 : decode y_World_copyFrom.2.1 164 = .ok (.aload_n 1, 1) := by decide +kernel
theorem d_World_copyFrom_165 : decode y_World_copyFrom.2.1 165 = .ok (.getfield 58, 3) := by decide +kernel
theorem d_World_copyFrom_168 : decode y_World_copyFrom.2.1 168 = .ok (.invokestatic 67, 3) := by decide +kernel
theorem d_World_copyFrom_171 : decode y_World_copyFrom.2.1 171 = .ok (.aload_n 0, 1) := by decide +kernel
theorem d_World_copyFrom_172 : decode y_World_copyFrom.2.1 172 = .ok (.aload_n 1, 1) := by decide +kernel
theorem d_World_copyFrom_173 : decode y_World_copyFrom.2.1 173 = .ok (.getfield 58, 3) := by decide +kernel
theorem d_World_copyFrom_176 : decode y_World_copyFrom.2.1 176 = .ok (.putfield 58, 3) := by decide +kernel
theorem d_World_copyFrom_179 : decode y_World_copyFrom.2.1 179 = .ok (.return_, 1) := by decide +kernel
def y_World_carryFrom : ab_Y := (⟨"WorldEngine$World", "carryFrom", "(LWorldEngine$World;LWorldEngine$Program;LWorldEngine$Program;)V"⟩, prog_12_method_19_code, 9, none, [])
theorem d_World_carryFrom_0 : decode y_World_carryFrom.2.1 0 = .ok (.aload_n 3, 1) := by decide +kernel
theorem d_World_carryFrom_1 : decode y_World_carryFrom.2.1 1 = .ok (.getfield 99, 3) := by decide +kernel
theorem d_World_carryFrom_4 : decode y_World_carryFrom.2.1 4 = .ok (.astore 4, 2) := by decide +kernel
theorem d_World_carryFrom_6 : decode y_World_carryFrom.2.1 6 = .ok (.aload_n 0, 1) := by decide +kernel
theorem d_World_carryFrom_7 : decode y_World_carryFrom.2.1 7 = .ok (.aload 4, 2) := by decide +kernel
theorem d_World_carryFrom_9 : decode y_World_carryFrom.2.1 9 = .ok (.invokevirtual 115, 3) := by decide +kernel
theorem d_World_carryFrom_12 : decode y_World_carryFrom.2.1 12 = .ok (.putfield 52, 3) := by decide +kernel
theorem d_World_carryFrom_15 : decode y_World_carryFrom.2.1 15 = .ok (.aload_n 0, 1) := by decide +kernel
theorem d_World_carryFrom_16 : decode y_World_carryFrom.2.1 16 = .ok (.iconst 0, 1) := by decide +kernel
theorem d_World_carryFrom_17 : decode y_World_carryFrom.2.1 17 = .ok (.putfield 46, 3) := by decide +kernel
theorem d_World_carryFrom_20 : decode y_World_carryFrom.2.1 20 = .ok (.iconst 0, 1) := by decide +kernel
theorem d_World_carryFrom_21 : decode y_World_carryFrom.2.1 21 = .ok (.istore 5, 2) := by decide +kernel
theorem d_World_carryFrom_23 : decode y_World_carryFrom.2.1 23 = .ok (.iload 5, 2) := by decide +kernel
theorem d_World_carryFrom_25 : decode y_World_carryFrom.2.1 25 = .ok (.aload_n 0, 1) := by decide +kernel
theorem d_World_carryFrom_26 : decode y_World_carryFrom.2.1 26 = .ok (.getfield 49, 3) := by decide +kernel
theorem d_World_carryFrom_29 : decode y_World_carryFrom.2.1 29 = .ok (.if_icmp .ge 27, 3) := by decide +kernel
theorem d_World_carryFrom_32 : decode y_World_carryFrom.2.1 32 = .ok (.aload_n 1, 1) := by decide +kernel
theorem d_World_carryFrom_33 : decode y_World_carryFrom.2.1 33 = .ok (.getfield 13, 3) := by decide +kernel
theorem d_World_carryFrom_36 : decode y_World_carryFrom.2.1 36 = .ok (.iload 5, 2) := by decide +kernel
theorem d_World_carryFrom_38 : decode y_World_carryFrom.2.1 38 = .ok (.iaload, 1) := by decide +kernel
theorem d_World_carryFrom_39 : decode y_World_carryFrom.2.1 39 = .ok (.ifCond .lt 11, 3) := by decide +kernel
theorem d_World_carryFrom_42 : decode y_World_carryFrom.2.1 42 = .ok (.aload_n 0, 1) := by decide +kernel
theorem d_World_carryFrom_43 : decode y_World_carryFrom.2.1 43 = .ok (.getfield 13, 3) := by decide +kernel
theorem d_World_carryFrom_46 : decode y_World_carryFrom.2.1 46 = .ok (.iload 5, 2) := by decide +kernel
theorem d_World_carryFrom_48 : decode y_World_carryFrom.2.1 48 = .ok (.iconst 0, 1) := by decide +kernel
theorem d_World_carryFrom_49 : decode y_World_carryFrom.2.1 49 = .ok (.iastore, 1) := by decide +kernel
theorem d_World_carryFrom_50 : decode y_World_carryFrom.2.1 50 = .ok (.iinc 5 1, 3) := by decide +kernel
theorem d_World_carryFrom_53 : decode y_World_carryFrom.2.1 53 = .ok (.goto (-30), 3) := by decide +kernel
theorem d_World_carryFrom_56 : decode y_World_carryFrom.2.1 56 = .ok (.iconst 0, 1) := by decide +kernel
theorem d_World_carryFrom_57 : decode y_World_carryFrom.2.1 57 = .ok (.istore 5, 2) := by decide +kernel
theorem d_World_carryFrom_59 : decode y_World_carryFrom.2.1 59 = .ok (.iload 5, 2) := by decide +kernel
theorem d_World_carryFrom_61 : decode y_World_carryFrom.2.1 61 = .ok (.aload 4, 2) := by decide +kernel
theorem d_World_carryFrom_63 : decode y_World_carryFrom.2.1 63 = .ok (.getfield 119, 3) := by decide +kernel
theorem d_World_carryFrom_66 : decode y_World_carryFrom.2.1 66 = .ok (.if_icmp .ge 141, 3) := by decide +kernel
theorem d_World_carryFrom_69 : decode y_World_carryFrom.2.1 69 = .ok (.aload_n 2, 1) := by decide +kernel
theorem d_World_carryFrom_70 : decode y_World_carryFrom.2.1 70 = .ok (.getfield 99, 3) := by decide +kernel
theorem d_World_carryFrom_73 : decode y_World_carryFrom.2.1 73 = .ok (.aload 4, 2) := by decide +kernel
theorem d_World_carryFrom_75 : decode y_World_carryFrom.2.1 75 = .ok (.getfield 122, 3) := by decide +kernel
theorem d_World_carryFrom_78 : decode y_World_carryFrom.2.1 78 = .ok (.iload 5, 2) := by decide +kernel
theorem d_World_carryFrom_80 : decode y_World_carryFrom.2.1 80 = .ok (.aaload, 1) := by decide +kernel
theorem d_World_carryFrom_81 : decode y_World_carryFrom.2.1 81 = .ok (.getfield 126, 3) := by decide +kernel
theorem d_World_carryFrom_84 : decode y_World_carryFrom.2.1 84 = .ok (.invokevirtual 132, 3) := by decide +kernel
theorem d_World_carryFrom_87 : decode y_World_carryFrom.2.1 87 = .ok (.istore 6, 2) := by decide +kernel
theorem d_World_carryFrom_89 : decode y_World_carryFrom.2.1 89 = .ok (.iconst 0, 1) := by decide +kernel
theorem d_World_carryFrom_90 : decode y_World_carryFrom.2.1 90 = .ok (.istore 7, 2) := by decide +kernel
theorem d_World_carryFrom_92 : decode y_World_carryFrom.2.1 92 = .ok (.iload 7, 2) := by decide +kernel
theorem d_World_carryFrom_94 : decode y_World_carryFrom.2.1 94 = .ok (.aload_n 0, 1) := by decide +kernel
theorem d_World_carryFrom_95 : decode y_World_carryFrom.2.1 95 = .ok (.getfield 49, 3) := by decide +kernel
theorem d_World_carryFrom_98 : decode y_World_carryFrom.2.1 98 = .ok (.if_icmp .ge 39, 3) := by decide +kernel
theorem d_World_carryFrom_101 : decode y_World_carryFrom.2.1 101 = .ok (.iload 6, 2) := by decide +kernel
theorem d_World_carryFrom_103 : decode y_World_carryFrom.2.1 103 = .ok (.ifCond .lt 34, 3) := by decide +kernel
theorem d_World_carryFrom_106 : decode y_World_carryFrom.2.1 106 = .ok (.aload_n 1, 1) := by decide +kernel
theorem d_World_carryFrom_107 : decode y_World_carryFrom.2.1 107 = .ok (.iload 7, 2) := by decide +kernel
theorem d_World_carryFrom_109 : decode y_World_carryFrom.2.1 109 = .ok (.iload 6, 2) := by decide +kernel
theorem d_World_carryFrom_111 : decode y_World_carryFrom.2.1 111 = .ok (.invokevirtual 136, 3) := by decide +kernel
theorem d_World_carryFrom_114 : decode y_World_carryFrom.2.1 114 = .ok (.ifCond .eq 17, 3) := by decide +kernel
theorem d_World_carryFrom_117 : decode y_World_carryFrom.2.1 117 = .ok (.aload_n 0, 1) := by decide +kernel
theorem d_World_carryFrom_118 : decode y_World_carryFrom.2.1 118 = .ok (.getfield 13, 3) := by decide +kernel
theorem d_World_carryFrom_121 : decode y_World_carryFrom.2.1 121 = .ok (.iload 7, 2) := by decide +kernel
theorem d_World_carryFrom_123 : decode y_World_carryFrom.2.1 123 = .ok (.dup2, 1) := by decide +kernel
theorem d_World_carryFrom_124 : decode y_World_carryFrom.2.1 124 = .ok (.iaload, 1) := by decide +kernel
theorem d_World_carryFrom_125 : decode y_World_carryFrom.2.1 125 = .ok (.iconst 1, 1) := by decide +kernel
theorem d_World_carryFrom_126 : decode y_World_carryFrom.2.1 126 = .ok (.iload 5, 2) := by decide +kernel
theorem d_World_carryFrom_128 : decode y_World_carryFrom.2.1 128 = .ok (.ishl, 1) := by decide +kernel
theorem d_World_carryFrom_129 : decode y_World_carryFrom.2.1 129 = .ok (.ior, 1) := by decide +kernel
theorem d_World_carryFrom_130 : decode y_World_carryFrom.2.1 130 = .ok (.iastore, 1) := by decide +kernel
theorem d_World_carryFrom_131 : decode y_World_carryFrom.2.1 131 = .ok (.iinc 7 1, 3) := by decide +kernel
theorem d_World_carryFrom_134 : decode y_World_carryFrom.2.1 134 = .ok (.goto (-42), 3) := by decide +kernel
theorem d_World_carryFrom_137 : decode y_World_carryFrom.2.1 137 = .ok (.aload 4, 2) := by decide +kernel
theorem d_World_carryFrom_139 : decode y_World_carryFrom.2.1 139 = .ok (.getfield 103, 3) := by decide +kernel
theorem d_World_carryFrom_142 : decode y_World_carryFrom.2.1 142 = .ok (.iload 5, 2) := by decide +kernel
theorem d_World_carryFrom_144 : decode y_World_carryFrom.2.1 144 = .ok (.iaload, 1) := by decide +kernel
theorem d_World_carryFrom_145 : decode y_World_carryFrom.2.1 145 = .ok (.istore 7, 2) := by decide +kernel
theorem d_World_carryFrom_147 : decode y_World_carryFrom.2.1 147 = .ok (.iload 7, 2) := by decide +kernel
theorem d_World_carryFrom_149 : decode y_World_carryFrom.2.1 149 = .ok (.aload 4, 2) := by decide +kernel
theorem d_World_carryFrom_151 : decode y_World_carryFrom.2.1 151 = .ok (.getfield 103, 3) := by decide +kernel
theorem d_World_carryFrom_154 : decode y_World_carryFrom.2.1 154 = .ok (.iload 5, 2) := by decide +kernel
theorem d_World_carryFrom_156 : decode y_World_carryFrom.2.1 156 = .ok (.iconst 1, 1) := by decide +kernel
theorem d_World_carryFrom_157 : decode y_World_carryFrom.2.1 157 = .ok (.iadd, 1) := by decide +kernel
theorem d_World_carryFrom_158 : decode y_World_carryFrom.2.1 158 = .ok (.iaload, 1) := by decide +kernel
theorem d_World_carryFrom_159 : decode y_World_carryFrom.2.1 159 = .ok (.if_icmp .ge 42, 3) := by decide +kernel
theorem d_World_carryFrom_162 : decode y_World_carryFrom.2.1 162 = .ok (.aload_n 2, 1) := by decide +kernel
theorem d_World_carryFrom_163 : decode y_World_carryFrom.2.1 163 = .ok (.getfield 99, 3) := by decide +kernel
theorem d_World_carryFrom_166 : decode y_World_carryFrom.2.1 166 = .ok (.iload 6, 2) := by decide +kernel
theorem d_World_carryFrom_168 : decode y_World_carryFrom.2.1 168 = .ok (.aload 4, 2) := by decide +kernel
theorem d_World_carryFrom_170 : decode y_World_carryFrom.2.1 170 = .ok (.getfield 140, 3) := by decide +kernel
theorem d_World_carryFrom_173 : decode y_World_carryFrom.2.1 173 = .ok (.iload 7, 2) := by decide +kernel
theorem d_World_carryFrom_175 : decode y_World_carryFrom.2.1 175 = .ok (.aaload, 1) := by decide +kernel
theorem d_World_carryFrom_176 : decode y_World_carryFrom.2.1 176 = .ok (.getfield 126, 3) := by decide +kernel
theorem d_World_carryFrom_179 : decode y_World_carryFrom.2.1 179 = .ok (.invokevirtual 143, 3) := by decide +kernel
theorem d_World_carryFrom_182 : decode y_World_carryFrom.2.1 182 = .ok (.istore 8, 2) := by decide +kernel
theorem d_World_carryFrom_184 : decode y_World_carryFrom.2.1 184 = .ok (.aload_n 0, 1) := by decide +kernel
theorem d_World_carryFrom_185 : decode y_World_carryFrom.2.1 185 = .ok (.aload_n 1, 1) := by decide +kernel
theorem d_World_carryFrom_186 : decode y_World_carryFrom.2.1 186 = .ok (.aload_n 2, 1) := by decide +kernel
theorem d_World_carryFrom_187 : decode y_World_carryFrom.2.1 187 = .ok (.iload 8, 2) := by decide +kernel
theorem d_World_carryFrom_189 : decode y_World_carryFrom.2.1 189 = .ok (.aload_n 3, 1) := by decide +kernel
theorem d_World_carryFrom_190 : decode y_World_carryFrom.2.1 190 = .ok (.iload 7, 2) := by decide +kernel
theorem d_World_carryFrom_192 : decode y_World_carryFrom.2.1 192 = .ok (.invokevirtual 147, 3) := by decide +kernel
theorem d_World_carryFrom_195 : decode y_World_carryFrom.2.1 195 = .ok (.iinc 7 1, 3) := by decide +kernel
theorem d_World_carryFrom_198 : decode y_World_carryFrom.2.1 198 = .ok (.goto (-51), 3) := by decide +kernel
theorem d_World_carryFrom_201 : decode y_World_carryFrom.2.1 201 = .ok (.iinc 5 1, 3) := by decide +kernel
theorem d_World_carryFrom_204 : decode y_World_carryFrom.2.1 204 = .ok (.goto (-145), 3) := by decide +kernel
theorem d_World_carryFrom_207 : decode y_World_carryFrom.2.1 207 = .ok (.aload_n 0, 1) := by decide +kernel
theorem d_World_carryFrom_208 : decode y_World_carryFrom.2.1 208 = .ok (.aload_n 2, 1) := by decide +kernel
theorem d_World_carryFrom_209 : decode y_World_carryFrom.2.1 209 = .ok (.aload_n 3, 1) := by decide +kernel
theorem d_World_carryFrom_210 : decode y_World_carryFrom.2.1 210 = .ok (.invokevirtual 151, 3) := by decide +kernel
theorem d_World_carryFrom_213 : decode y_World_carryFrom.2.1 213 = .ok (.return_, 1) := by decide +kernel
def y_World_owns : ab_Y := (⟨"WorldEngine$World", "owns", "(II)Z"⟩, prog_12_method_6_code, 3, (some FieldType.boolean), [])
theorem d_World_owns_0 : decode y_World_owns.2.1 0 = .ok (.iload_n 1, 1) := by decide +kernel
theorem d_World_owns_1 : decode y_World_owns.2.1 1 = .ok (.ifCond .lt 37, 3) := by decide +kernel
theorem d_World_owns_4 : decode y_World_owns.2.1 4 = .ok (.iload_n 1, 1) := by decide +kernel
theorem d_World_owns_5 : decode y_World_owns.2.1 5 = .ok (.sipush 256, 3) := by decide +kernel
theorem d_World_owns_8 : decode y_World_owns.2.1 8 = .ok (.if_icmp .ge 30, 3) := by decide +kernel
theorem d_World_owns_11 : decode y_World_owns.2.1 11 = .ok (.aload_n 0, 1) := by decide +kernel
theorem d_World_owns_12 : decode y_World_owns.2.1 12 = .ok (.getfield 13, 3) := by decide +kernel
theorem d_World_owns_15 : decode y_World_owns.2.1 15 = .ok (.iload_n 1, 1) := by decide +kernel
theorem d_World_owns_16 : decode y_World_owns.2.1 16 = .ok (.iaload, 1) := by decide +kernel
theorem d_World_owns_17 : decode y_World_owns.2.1 17 = .ok (.ifCond .lt 21, 3) := by decide +kernel
theorem d_World_owns_20 : decode y_World_owns.2.1 20 = .ok (.aload_n 0, 1) := by decide +kernel
theorem d_World_owns_21 : decode y_World_owns.2.1 21 = .ok (.getfield 13, 3) := by decide +kernel
theorem d_World_owns_24 : decode y_World_owns.2.1 24 = .ok (.iload_n 1, 1) := by decide +kernel
theorem d_World_owns_25 : decode y_World_owns.2.1 25 = .ok (.iaload, 1) := by decide +kernel
theorem d_World_owns_26 : decode y_World_owns.2.1 26 = .ok (.iload_n 2, 1) := by decide +kernel
theorem d_World_owns_27 : decode y_World_owns.2.1 27 = .ok (.ishr, 1) := by decide +kernel
theorem d_World_owns_28 : decode y_World_owns.2.1 28 = .ok (.iconst 1, 1) := by decide +kernel
theorem d_World_owns_29 : decode y_World_owns.2.1 29 = .ok (.iand, 1) := by decide +kernel
theorem d_World_owns_30 : decode y_World_owns.2.1 30 = .ok (.iconst 1, 1) := by decide +kernel
theorem d_World_owns_31 : decode y_World_owns.2.1 31 = .ok (.if_icmp .ne 7, 3) := by decide +kernel
theorem d_World_owns_34 : decode y_World_owns.2.1 34 = .ok (.iconst 1, 1) := by decide +kernel
theorem d_World_owns_35 : decode y_World_owns.2.1 35 = .ok (.goto 4, 3) := by decide +kernel
theorem d_World_owns_38 : decode y_World_owns.2.1 38 = .ok (.iconst 0, 1) := by decide +kernel
theorem d_World_owns_39 : decode y_World_owns.2.1 39 = .ok (.ireturn, 1) := by decide +kernel
def y_World_carryMember : ab_Y := (⟨"WorldEngine$World", "carryMember", "(LWorldEngine$World;LWorldEngine$Program;ILWorldEngine$Program;I)V"⟩, prog_12_method_20_code, 9, none, [])
theorem d_World_carryMember_0 : decode y_World_carryMember.2.1 0 = .ok (.aload 4, 2) := by decide +kernel
theorem d_World_carryMember_2 : decode y_World_carryMember.2.1 2 = .ok (.getfield 99, 3) := by decide +kernel
theorem d_World_carryMember_5 : decode y_World_carryMember.2.1 5 = .ok (.getfield 140, 3) := by decide +kernel
theorem d_World_carryMember_8 : decode y_World_carryMember.2.1 8 = .ok (.iload 5, 2) := by decide +kernel
theorem d_World_carryMember_10 : decode y_World_carryMember.2.1 10 = .ok (.aaload, 1) := by decide +kernel
theorem d_World_carryMember_11 : decode y_World_carryMember.2.1 11 = .ok (.getfield 155, 3) := by decide +kernel
theorem d_World_carryMember_14 : decode y_World_carryMember.2.1 14 = .ok (.istore 6, 2) := by decide +kernel
theorem d_World_carryMember_16 : decode y_World_carryMember.2.1 16 = .ok (.iconst 0, 1) := by decide +kernel
theorem d_World_carryMember_17 : decode y_World_carryMember.2.1 17 = .ok (.istore 7, 2) := by decide +kernel
theorem d_World_carryMember_19 : decode y_World_carryMember.2.1 19 = .ok (.iload 7, 2) := by decide +kernel
theorem d_World_carryMember_21 : decode y_World_carryMember.2.1 21 = .ok (.aload_n 0, 1) := by decide +kernel
theorem d_World_carryMember_22 : decode y_World_carryMember.2.1 22 = .ok (.getfield 49, 3) := by decide +kernel
theorem d_World_carryMember_25 : decode y_World_carryMember.2.1 25 = .ok (.if_icmp .ge 58, 3) := by decide +kernel
theorem d_World_carryMember_28 : decode y_World_carryMember.2.1 28 = .ok (.aload 4, 2) := by decide +kernel
theorem d_World_carryMember_30 : decode y_World_carryMember.2.1 30 = .ok (.iload 5, 2) := by decide +kernel
theorem d_World_carryMember_32 : decode y_World_carryMember.2.1 32 = .ok (.invokevirtual 108, 3) := by decide +kernel
theorem d_World_carryMember_35 : decode y_World_carryMember.2.1 35 = .ok (.istore 8, 2) := by decide +kernel
theorem d_World_carryMember_37 : decode y_World_carryMember.2.1 37 = .ok (.iload_n 3, 1) := by decide +kernel
theorem d_World_carryMember_38 : decode y_World_carryMember.2.1 38 = .ok (.ifCond .lt 29, 3) := by decide +kernel
theorem d_World_carryMember_41 : decode y_World_carryMember.2.1 41 = .ok (.aload_n 1, 1) := by decide +kernel
theorem d_World_carryMember_42 : decode y_World_carryMember.2.1 42 = .ok (.iload 7, 2) := by decide +kernel
theorem d_World_carryMember_44 : decode y_World_carryMember.2.1 44 = .ok (.iload_n 3, 1) := by decide +kernel
theorem d_World_carryMember_45 : decode y_World_carryMember.2.1 45 = .ok (.invokevirtual 158, 3) := by decide +kernel
theorem d_World_carryMember_48 : decode y_World_carryMember.2.1 48 = .ok (.aload_n 2, 1) := by decide +kernel
theorem d_World_carryMember_49 : decode y_World_carryMember.2.1 49 = .ok (.getfield 99, 3) := by decide +kernel
theorem d_World_carryMember_52 : decode y_World_carryMember.2.1 52 = .ok (.getfield 140, 3) := by decide +kernel
theorem d_World_carryMember_55 : decode y_World_carryMember.2.1 55 = .ok (.iload_n 3, 1) := by decide +kernel
theorem d_World_carryMember_56 : decode y_World_carryMember.2.1 56 = .ok (.aaload, 1) := by decide +kernel
theorem d_World_carryMember_57 : decode y_World_carryMember.2.1 57 = .ok (.getfield 155, 3) := by decide +kernel
theorem d_World_carryMember_60 : decode y_World_carryMember.2.1 60 = .ok (.iload 6, 2) := by decide +kernel
theorem d_World_carryMember_62 : decode y_World_carryMember.2.1 62 = .ok (.invokestatic 161, 3) := by decide +kernel
theorem d_World_carryMember_65 : decode y_World_carryMember.2.1 65 = .ok (.istore 8, 2) := by decide +kernel
theorem d_World_carryMember_67 : decode y_World_carryMember.2.1 67 = .ok (.aload_n 0, 1) := by decide +kernel
theorem d_World_carryMember_68 : decode y_World_carryMember.2.1 68 = .ok (.iload 7, 2) := by decide +kernel
theorem d_World_carryMember_70 : decode y_World_carryMember.2.1 70 = .ok (.iload 5, 2) := by decide +kernel
theorem d_World_carryMember_72 : decode y_World_carryMember.2.1 72 = .ok (.iload 8, 2) := by decide +kernel
theorem d_World_carryMember_74 : decode y_World_carryMember.2.1 74 = .ok (.invokevirtual 111, 3) := by decide +kernel
theorem d_World_carryMember_77 : decode y_World_carryMember.2.1 77 = .ok (.iinc 7 1, 3) := by decide +kernel
theorem d_World_carryMember_80 : decode y_World_carryMember.2.1 80 = .ok (.goto (-61), 3) := by decide +kernel
theorem d_World_carryMember_83 : decode y_World_carryMember.2.1 83 = .ok (.return_, 1) := by decide +kernel
def y_World_read : ab_Y := (⟨"WorldEngine$World", "read", "(II)I"⟩, prog_12_method_10_code, 4, (some FieldType.int), [])
theorem d_World_read_0 : decode y_World_read.2.1 0 = .ok (.iload_n 1, 1) := by decide +kernel
theorem d_World_read_1 : decode y_World_read.2.1 1 = .ok (.aload_n 0, 1) := by decide +kernel
theorem d_World_read_2 : decode y_World_read.2.1 2 = .ok (.getfield 52, 3) := by decide +kernel
theorem d_World_read_5 : decode y_World_read.2.1 5 = .ok (.imul, 1) := by decide +kernel
theorem d_World_read_6 : decode y_World_read.2.1 6 = .ok (.iload_n 2, 1) := by decide +kernel
theorem d_World_read_7 : decode y_World_read.2.1 7 = .ok (.iadd, 1) := by decide +kernel
theorem d_World_read_8 : decode y_World_read.2.1 8 = .ok (.istore_n 3, 1) := by decide +kernel
theorem d_World_read_9 : decode y_World_read.2.1 9 = .ok (.iload_n 1, 1) := by decide +kernel
theorem d_World_read_10 : decode y_World_read.2.1 10 = .ok (.ifCond .lt 25, 3) := by decide +kernel
theorem d_World_read_13 : decode y_World_read.2.1 13 = .ok (.iload_n 3, 1) := by decide +kernel
theorem d_World_read_14 : decode y_World_read.2.1 14 = .ok (.ifCond .lt 21, 3) := by decide +kernel
theorem d_World_read_17 : decode y_World_read.2.1 17 = .ok (.iload_n 3, 1) := by decide +kernel
theorem d_World_read_18 : decode y_World_read.2.1 18 = .ok (.aload_n 0, 1) := by decide +kernel
theorem d_World_read_19 : decode y_World_read.2.1 19 = .ok (.getfield 24, 3) := by decide +kernel
theorem d_World_read_22 : decode y_World_read.2.1 22 = .ok (.arraylength, 1) := by decide +kernel
theorem d_World_read_23 : decode y_World_read.2.1 23 = .ok (.if_icmp .ge 12, 3) := by decide +kernel
theorem d_World_read_26 : decode y_World_read.2.1 26 = .ok (.aload_n 0, 1) := by decide +kernel
theorem d_World_read_27 : decode y_World_read.2.1 27 = .ok (.getfield 24, 3) := by decide +kernel
theorem d_World_read_30 : decode y_World_read.2.1 30 = .ok (.iload_n 3, 1) := by decide +kernel
theorem d_World_read_31 : decode y_World_read.2.1 31 = .ok (.iaload, 1) := by decide +kernel
theorem d_World_read_32 : decode y_World_read.2.1 32 = .ok (.goto 4, 3) := by decide +kernel
theorem d_World_read_35 : decode y_World_read.2.1 35 = .ok (.iconst 0, 1) := by decide +kernel
theorem d_World_read_36 : decode y_World_read.2.1 36 = .ok (.ireturn, 1) := by decide +kernel
def y_World_turned : ab_Y := (⟨"WorldEngine$World", "turned", "(III)I"⟩, prog_12_method_21_code, 6, (some FieldType.int), [])
theorem d_World_turned_0 : decode y_World_turned.2.1 0 = .ok (.iload_n 1, 1) := by decide +kernel
theorem d_World_turned_1 : decode y_World_turned.2.1 1 = .ok (.iload_n 2, 1) := by decide +kernel
theorem d_World_turned_2 : decode y_World_turned.2.1 2 = .ok (.if_icmp .ne 5, 3) := by decide +kernel
theorem d_World_turned_5 : decode y_World_turned.2.1 5 = .ok (.iload_n 0, 1) := by decide +kernel
theorem d_World_turned_6 : decode y_World_turned.2.1 6 = .ok (.ireturn, 1) := by decide +kernel
theorem d_World_turned_7 : decode y_World_turned.2.1 7 = .ok (.iload_n 1, 1) := by decide +kernel
theorem d_World_turned_8 : decode y_World_turned.2.1 8 = .ok (.iconst 4, 1) := by decide +kernel
theorem d_World_turned_9 : decode y_World_turned.2.1 9 = .ok (.if_icmp .eq 8, 3) := by decide +kernel
theorem d_World_turned_12 : decode y_World_turned.2.1 12 = .ok (.iload_n 2, 1) := by decide +kernel
theorem d_World_turned_13 : decode y_World_turned.2.1 13 = .ok (.iconst 4, 1) := by decide +kernel
theorem d_World_turned_14 : decode y_World_turned.2.1 14 = .ok (.if_icmp .ne 14, 3) := by decide +kernel
theorem d_World_turned_17 : decode y_World_turned.2.1 17 = .ok (.iload_n 2, 1) := by decide +kernel
theorem d_World_turned_18 : decode y_World_turned.2.1 18 = .ok (.iconst 4, 1) := by decide +kernel
theorem d_World_turned_19 : decode y_World_turned.2.1 19 = .ok (.if_icmp .ne 7, 3) := by decide +kernel
theorem d_World_turned_22 : decode y_World_turned.2.1 22 = .ok (.iconst (-1), 1) := by decide +kernel
theorem d_World_turned_23 : decode y_World_turned.2.1 23 = .ok (.goto 4, 3) := by decide +kernel
theorem d_World_turned_26 : decode y_World_turned.2.1 26 = .ok (.iconst 0, 1) := by decide +kernel
theorem d_World_turned_27 : decode y_World_turned.2.1 27 = .ok (.ireturn, 1) := by decide +kernel
theorem d_World_turned_28 : decode y_World_turned.2.1 28 = .ok (.iload_n 1, 1) := by decide +kernel
theorem d_World_turned_29 : decode y_World_turned.2.1 29 = .ok (.iconst 2, 1) := by decide +kernel
theorem d_World_turned_30 : decode y_World_turned.2.1 30 = .ok (.if_icmp .ne 10, 3) := by decide +kernel
theorem d_World_turned_33 : decode y_World_turned.2.1 33 = .ok (.iload_n 0, 1) := by decide +kernel
theorem d_World_turned_34 : decode y_World_turned.2.1 34 = .ok (.bipush 16, 2) := by decide +kernel
theorem d_World_turned_36 : decode y_World_turned.2.1 36 = .ok (.ishr, 1) := by decide +kernel
theorem d_World_turned_37 : decode y_World_turned.2.1 37 = .ok (.goto 4, 3) := by decide +kernel
theorem d_World_turned_40 : decode y_World_turned.2.1 40 = .ok (.iload_n 0, 1) := by decide +kernel
theorem d_World_turned_41 : decode y_World_turned.2.1 41 = .ok (.istore_n 3, 1) := by decide +kernel
theorem d_World_turned_42 : decode y_World_turned.2.1 42 = .ok (.iload_n 2, 1) := by decide +kernel
theorem d_World_turned_43 : decode y_World_turned.2.1 43 = .ok (.tableswitch 71 1 3 #[25, 37, 61], 25) := by decide +kernel
theorem d_World_turned_68 : decode y_World_turned.2.1 68 = .ok (.bipush (-128), 2) := by decide +kernel
theorem d_World_turned_70 : decode y_World_turned.2.1 70 = .ok (.bipush 127, 2) := by decide +kernel
theorem d_World_turned_72 : decode y_World_turned.2.1 72 = .ok (.iload_n 3, 1) := by decide +kernel
theorem d_World_turned_73 : decode y_World_turned.2.1 73 = .ok (.invokestatic 165, 3) := by decide +kernel
theorem d_World_turned_76 : decode y_World_turned.2.1 76 = .ok (.invokestatic 83, 3) := by decide +kernel
theorem d_World_turned_79 : decode y_World_turned.2.1 79 = .ok (.ireturn, 1) := by decide +kernel
theorem d_World_turned_80 : decode y_World_turned.2.1 80 = .ok (.ldc2_w 168, 3) := by decide +kernel
theorem d_World_turned_83 : decode y_World_turned.2.1 83 = .ok (.iload_n 0, 1) := by decide +kernel
theorem d_World_turned_84 : decode y_World_turned.2.1 84 = .ok (.i2l, 1) := by decide +kernel
theorem d_World_turned_85 : decode y_World_turned.2.1 85 = .ok (.lmul, 1) := by decide +kernel
theorem d_World_turned_86 : decode y_World_turned.2.1 86 = .ok (.lstore 4, 2) := by decide +kernel
theorem d_World_turned_88 : decode y_World_turned.2.1 88 = .ok (.ldc2_w 172, 3) := by decide +kernel
theorem d_World_turned_91 : decode y_World_turned.2.1 91 = .ok (.ldc2_w 174, 3) := by decide +kernel
theorem d_World_turned_94 : decode y_World_turned.2.1 94 = .ok (.lload 4, 2) := by decide +kernel
theorem d_World_turned_96 : decode y_World_turned.2.1 96 = .ok (.invokestatic 176, 3) := by decide +kernel
theorem d_World_turned_99 : decode y_World_turned.2.1 99 = .ok (.invokestatic 179, 3) := by decide +kernel
theorem d_World_turned_102 : decode y_World_turned.2.1 102 = .ok (.l2i, 1) := by decide +kernel
theorem d_World_turned_103 : decode y_World_turned.2.1 103 = .ok (.ireturn, 1) := by decide +kernel
theorem d_World_turned_104 : decode y_World_turned.2.1 104 = .ok (.iload_n 0, 1) := by decide +kernel
theorem d_World_turned_105 : decode y_World_turned.2.1 105 = .ok (.ifCond .eq 7, 3) := by decide +kernel
theorem d_World_turned_108 : decode y_World_turned.2.1 108 = .ok (.iconst 1, 1) := by decide +kernel
theorem d_World_turned_109 : decode y_World_turned.2.1 109 = .ok (.goto 4, 3) := by decide +kernel
theorem d_World_turned_112 : decode y_World_turned.2.1 112 = .ok (.iconst 0, 1) := by decide +kernel
theorem d_World_turned_113 : decode y_World_turned.2.1 113 = .ok (.ireturn, 1) := by decide +kernel
theorem d_World_turned_114 : decode y_World_turned.2.1 114 = .ok (.iload_n 3, 1) := by decide +kernel
theorem d_World_turned_115 : decode y_World_turned.2.1 115 = .ok (.ireturn, 1) := by decide +kernel
def y_World_write : ab_Y := (⟨"WorldEngine$World", "write", "(III)V"⟩, prog_12_method_11_code, 5, none, [])
theorem d_World_write_0 : decode y_World_write.2.1 0 = .ok (.iload_n 1, 1) := by decide +kernel
theorem d_World_write_1 : decode y_World_write.2.1 1 = .ok (.aload_n 0, 1) := by decide +kernel
theorem d_World_write_2 : decode y_World_write.2.1 2 = .ok (.getfield 52, 3) := by decide +kernel
theorem d_World_write_5 : decode y_World_write.2.1 5 = .ok (.imul, 1) := by decide +kernel
theorem d_World_write_6 : decode y_World_write.2.1 6 = .ok (.iload_n 2, 1) := by decide +kernel
theorem d_World_write_7 : decode y_World_write.2.1 7 = .ok (.iadd, 1) := by decide +kernel
theorem d_World_write_8 : decode y_World_write.2.1 8 = .ok (.istore 4, 2) := by decide +kernel
theorem d_World_write_10 : decode y_World_write.2.1 10 = .ok (.iload_n 1, 1) := by decide +kernel
theorem d_World_write_11 : decode y_World_write.2.1 11 = .ok (.ifCond .lt 26, 3) := by decide +kernel
theorem d_World_write_14 : decode y_World_write.2.1 14 = .ok (.iload 4, 2) := by decide +kernel
theorem d_World_write_16 : decode y_World_write.2.1 16 = .ok (.ifCond .lt 21, 3) := by decide +kernel
theorem d_World_write_19 : decode y_World_write.2.1 19 = .ok (.iload 4, 2) := by decide +kernel
theorem d_World_write_21 : decode y_World_write.2.1 21 = .ok (.aload_n 0, 1) := by decide +kernel
theorem d_World_write_22 : decode y_World_write.2.1 22 = .ok (.getfield 24, 3) := by decide +kernel
theorem d_World_write_25 : decode y_World_write.2.1 25 = .ok (.arraylength, 1) := by decide +kernel
theorem d_World_write_26 : decode y_World_write.2.1 26 = .ok (.if_icmp .ge 11, 3) := by decide +kernel
theorem d_World_write_29 : decode y_World_write.2.1 29 = .ok (.aload_n 0, 1) := by decide +kernel
theorem d_World_write_30 : decode y_World_write.2.1 30 = .ok (.getfield 24, 3) := by decide +kernel
theorem d_World_write_33 : decode y_World_write.2.1 33 = .ok (.iload 4, 2) := by decide +kernel
theorem d_World_write_35 : decode y_World_write.2.1 35 = .ok (.iload_n 3, 1) := by decide +kernel
theorem d_World_write_36 : decode y_World_write.2.1 36 = .ok (.iastore, 1) := by decide +kernel
theorem d_World_write_37 : decode y_World_write.2.1 37 = .ok (.return_, 1) := by decide +kernel
def y_World_carryEvents : ab_Y := (⟨"WorldEngine$World", "carryEvents", "(LWorldEngine$Program;LWorldEngine$Program;)V"⟩, prog_12_method_22_code, 7, none, [])
theorem d_World_carryEvents_0 : decode y_World_carryEvents.2.1 0 = .ok (.iconst 0, 1) := by decide +kernel
theorem d_World_carryEvents_1 : decode y_World_carryEvents.2.1 1 = .ok (.istore_n 3, 1) := by decide +kernel
theorem d_World_carryEvents_2 : decode y_World_carryEvents.2.1 2 = .ok (.iconst 0, 1) := by decide +kernel
theorem d_World_carryEvents_3 : decode y_World_carryEvents.2.1 3 = .ok (.istore 4, 2) := by decide +kernel
theorem d_World_carryEvents_5 : decode y_World_carryEvents.2.1 5 = .ok (.iload 4, 2) := by decide +kernel
theorem d_World_carryEvents_7 : decode y_World_carryEvents.2.1 7 = .ok (.aload_n 0, 1) := by decide +kernel
theorem d_World_carryEvents_8 : decode y_World_carryEvents.2.1 8 = .ok (.getfield 55, 3) := by decide +kernel
theorem d_World_carryEvents_11 : decode y_World_carryEvents.2.1 11 = .ok (.if_icmp .ge 102, 3) := by decide +kernel
theorem d_World_carryEvents_14 : decode y_World_carryEvents.2.1 14 = .ok (.aload_n 0, 1) := by decide +kernel
theorem d_World_carryEvents_15 : decode y_World_carryEvents.2.1 15 = .ok (.getfield 27, 3) := by decide +kernel
theorem d_World_carryEvents_18 : decode y_World_carryEvents.2.1 18 = .ok (.iload 4, 2) := by decide +kernel
theorem d_World_carryEvents_20 : decode y_World_carryEvents.2.1 20 = .ok (.bipush 7, 2) := by decide +kernel
theorem d_World_carryEvents_22 : decode y_World_carryEvents.2.1 22 = .ok (.imul, 1) := by decide +kernel
theorem d_World_carryEvents_23 : decode y_World_carryEvents.2.1 23 = .ok (.iaload, 1) := by decide +kernel
theorem d_World_carryEvents_24 : decode y_World_carryEvents.2.1 24 = .ok (.istore 5, 2) := by decide +kernel
theorem d_World_carryEvents_26 : decode y_World_carryEvents.2.1 26 = .ok (.aload_n 2, 1) := by decide +kernel
theorem d_World_carryEvents_27 : decode y_World_carryEvents.2.1 27 = .ok (.getfield 181, 3) := by decide +kernel
theorem d_World_carryEvents_30 : decode y_World_carryEvents.2.1 30 = .ok (.aload_n 1, 1) := by decide +kernel
theorem d_World_carryEvents_31 : decode y_World_carryEvents.2.1 31 = .ok (.getfield 181, 3) := by decide +kernel
theorem d_World_carryEvents_34 : decode y_World_carryEvents.2.1 34 = .ok (.getfield 122, 3) := by decide +kernel
theorem d_World_carryEvents_37 : decode y_World_carryEvents.2.1 37 = .ok (.iload 5, 2) := by decide +kernel
theorem d_World_carryEvents_39 : decode y_World_carryEvents.2.1 39 = .ok (.aaload, 1) := by decide +kernel
theorem d_World_carryEvents_40 : decode y_World_carryEvents.2.1 40 = .ok (.getfield 126, 3) := by decide +kernel
theorem d_World_carryEvents_43 : decode y_World_carryEvents.2.1 43 = .ok (.invokevirtual 132, 3) := by decide +kernel
theorem d_World_carryEvents_46 : decode y_World_carryEvents.2.1 46 = .ok (.istore 6, 2) := by decide +kernel
theorem d_World_carryEvents_48 : decode y_World_carryEvents.2.1 48 = .ok (.iload 6, 2) := by decide +kernel
theorem d_World_carryEvents_50 : decode y_World_carryEvents.2.1 50 = .ok (.ifCond .lt 57, 3) := by decide +kernel
theorem d_World_carryEvents_53 : decode y_World_carryEvents.2.1 53 = .ok (.aload_n 1, 1) := by decide +kernel
theorem d_World_carryEvents_54 : decode y_World_carryEvents.2.1 54 = .ok (.getfield 181, 3) := by decide +kernel
theorem d_World_carryEvents_57 : decode y_World_carryEvents.2.1 57 = .ok (.iload 5, 2) := by decide +kernel
theorem d_World_carryEvents_59 : decode y_World_carryEvents.2.1 59 = .ok (.aload_n 2, 1) := by decide +kernel
theorem d_World_carryEvents_60 : decode y_World_carryEvents.2.1 60 = .ok (.getfield 181, 3) := by decide +kernel
theorem d_World_carryEvents_63 : decode y_World_carryEvents.2.1 63 = .ok (.iload 6, 2) := by decide +kernel
theorem d_World_carryEvents_65 : decode y_World_carryEvents.2.1 65 = .ok (.invokevirtual 184, 3) := by decide +kernel
theorem d_World_carryEvents_68 : decode y_World_carryEvents.2.1 68 = .ok (.ifCond .eq 39, 3) := by decide +kernel
theorem d_World_carryEvents_71 : decode y_World_carryEvents.2.1 71 = .ok (.aload_n 0, 1) := by decide +kernel
theorem d_World_carryEvents_72 : decode y_World_carryEvents.2.1 72 = .ok (.getfield 27, 3) := by decide +kernel
theorem d_World_carryEvents_75 : decode y_World_carryEvents.2.1 75 = .ok (.iload 4, 2) := by decide +kernel
theorem d_World_carryEvents_77 : decode y_World_carryEvents.2.1 77 = .ok (.bipush 7, 2) := by decide +kernel
theorem d_World_carryEvents_79 : decode y_World_carryEvents.2.1 79 = .ok (.imul, 1) := by decide +kernel
theorem d_World_carryEvents_80 : decode y_World_carryEvents.2.1 80 = .ok (.aload_n 0, 1) := by decide +kernel
theorem d_World_carryEvents_81 : decode y_World_carryEvents.2.1 81 = .ok (.getfield 27, 3) := by decide +kernel
theorem d_World_carryEvents_84 : decode y_World_carryEvents.2.1 84 = .ok (.iload_n 3, 1) := by decide +kernel
theorem d_World_carryEvents_85 : decode y_World_carryEvents.2.1 85 = .ok (.bipush 7, 2) := by decide +kernel
theorem d_World_carryEvents_87 : decode y_World_carryEvents.2.1 87 = .ok (.imul, 1) := by decide +kernel
theorem d_World_carryEvents_88 : decode y_World_carryEvents.2.1 88 = .ok (.bipush 7, 2) := by decide +kernel
theorem d_World_carryEvents_90 : decode y_World_carryEvents.2.1 90 = .ok (.invokestatic 67, 3) := by decide +kernel
theorem d_World_carryEvents_93 : decode y_World_carryEvents.2.1 93 = .ok (.aload_n 0, 1) := by decide +kernel
theorem d_World_carryEvents_94 : decode y_World_carryEvents.2.1 94 = .ok (.getfield 27, 3) := by decide +kernel
theorem d_World_carryEvents_97 : decode y_World_carryEvents.2.1 97 = .ok (.iload_n 3, 1) := by decide +kernel
theorem d_World_carryEvents_98 : decode y_World_carryEvents.2.1 98 = .ok (.bipush 7, 2) := by decide +kernel
theorem d_World_carryEvents_100 : decode y_World_carryEvents.2.1 100 = .ok (.imul, 1) := by decide +kernel
theorem d_World_carryEvents_101 : decode y_World_carryEvents.2.1 101 = .ok (.iload 6, 2) := by decide +kernel
theorem d_World_carryEvents_103 : decode y_World_carryEvents.2.1 103 = .ok (.iastore, 1) := by decide +kernel
theorem d_World_carryEvents_104 : decode y_World_carryEvents.2.1 104 = .ok (.iinc 3 1, 3) := by decide +kernel
theorem d_World_carryEvents_107 : decode y_World_carryEvents.2.1 107 = .ok (.iinc 4 1, 3) := by decide +kernel
theorem d_World_carryEvents_110 : decode y_World_carryEvents.2.1 110 = .ok (.goto (-105), 3) := by decide +kernel
theorem d_World_carryEvents_113 : decode y_World_carryEvents.2.1 113 = .ok (.aload_n 0, 1) := by decide +kernel
theorem d_World_carryEvents_114 : decode y_World_carryEvents.2.1 114 = .ok (.iload_n 3, 1) := by decide +kernel
theorem d_World_carryEvents_115 : decode y_World_carryEvents.2.1 115 = .ok (.putfield 55, 3) := by decide +kernel
theorem d_World_carryEvents_118 : decode y_World_carryEvents.2.1 118 = .ok (.return_, 1) := by decide +kernel
def y_World_matches : ab_Y := (⟨"WorldEngine$World", "matches", "(III)Z"⟩, prog_12_method_7_code, 4, (some FieldType.boolean), [])
theorem d_World_matches_0 : decode y_World_matches.2.1 0 = .ok (.aload_n 0, 1) := by decide +kernel
theorem d_World_matches_1 : decode y_World_matches.2.1 1 = .ok (.getfield 13, 3) := by decide +kernel
theorem d_World_matches_4 : decode y_World_matches.2.1 4 = .ok (.iload_n 1, 1) := by decide +kernel
theorem d_World_matches_5 : decode y_World_matches.2.1 5 = .ok (.iaload, 1) := by decide +kernel
theorem d_World_matches_6 : decode y_World_matches.2.1 6 = .ok (.ifCond .lt 30, 3) := by decide +kernel
theorem d_World_matches_9 : decode y_World_matches.2.1 9 = .ok (.aload_n 0, 1) := by decide +kernel
theorem d_World_matches_10 : decode y_World_matches.2.1 10 = .ok (.getfield 13, 3) := by decide +kernel
theorem d_World_matches_13 : decode y_World_matches.2.1 13 = .ok (.iload_n 1, 1) := by decide +kernel
theorem d_World_matches_14 : decode y_World_matches.2.1 14 = .ok (.iaload, 1) := by decide +kernel
theorem d_World_matches_15 : decode y_World_matches.2.1 15 = .ok (.iload_n 2, 1) := by decide +kernel
theorem d_World_matches_16 : decode y_World_matches.2.1 16 = .ok (.iand, 1) := by decide +kernel
theorem d_World_matches_17 : decode y_World_matches.2.1 17 = .ok (.iload_n 2, 1) := by decide +kernel
theorem d_World_matches_18 : decode y_World_matches.2.1 18 = .ok (.if_icmp .ne 18, 3) := by decide +kernel
theorem d_World_matches_21 : decode y_World_matches.2.1 21 = .ok (.aload_n 0, 1) := by decide +kernel
theorem d_World_matches_22 : decode y_World_matches.2.1 22 = .ok (.getfield 13, 3) := by decide +kernel
theorem d_World_matches_25 : decode y_World_matches.2.1 25 = .ok (.iload_n 1, 1) := by decide +kernel
theorem d_World_matches_26 : decode y_World_matches.2.1 26 = .ok (.iaload, 1) := by decide +kernel
theorem d_World_matches_27 : decode y_World_matches.2.1 27 = .ok (.iload_n 3, 1) := by decide +kernel
theorem d_World_matches_28 : decode y_World_matches.2.1 28 = .ok (.iand, 1) := by decide +kernel
theorem d_World_matches_29 : decode y_World_matches.2.1 29 = .ok (.ifCond .ne 7, 3) := by decide +kernel
theorem d_World_matches_32 : decode y_World_matches.2.1 32 = .ok (.iconst 1, 1) := by decide +kernel
theorem d_World_matches_33 : decode y_World_matches.2.1 33 = .ok (.goto 4, 3) := by decide +kernel
theorem d_World_matches_36 : decode y_World_matches.2.1 36 = .ok (.iconst 0, 1) := by decide +kernel
theorem d_World_matches_37 : decode y_World_matches.2.1 37 = .ok (.ireturn, 1) := by decide +kernel
def y_World_numberAt : ab_Y := (⟨"WorldEngine$World", "numberAt", "(I)I"⟩, prog_12_method_4_code, 2, (some FieldType.int), [])
theorem d_World_numberAt_0 : decode y_World_numberAt.2.1 0 = .ok (.sipush 256, 3) := by decide +kernel
theorem d_World_numberAt_3 : decode y_World_numberAt.2.1 3 = .ok (.aload_n 0, 1) := by decide +kernel
theorem d_World_numberAt_4 : decode y_World_numberAt.2.1 4 = .ok (.getfield 9, 3) := by decide +kernel
theorem d_World_numberAt_7 : decode y_World_numberAt.2.1 7 = .ok (.iload_n 1, 1) := by decide +kernel
theorem d_World_numberAt_8 : decode y_World_numberAt.2.1 8 = .ok (.iaload, 1) := by decide +kernel
theorem d_World_numberAt_9 : decode y_World_numberAt.2.1 9 = .ok (.imul, 1) := by decide +kernel
theorem d_World_numberAt_10 : decode y_World_numberAt.2.1 10 = .ok (.iload_n 1, 1) := by decide +kernel
theorem d_World_numberAt_11 : decode y_World_numberAt.2.1 11 = .ok (.iadd, 1) := by decide +kernel
theorem d_World_numberAt_12 : decode y_World_numberAt.2.1 12 = .ok (.ireturn, 1) := by decide +kernel
def y_World_placeOf : ab_Y := (⟨"WorldEngine$World", "placeOf", "(I)I"⟩, prog_12_method_5_code, 3, (some FieldType.int), [])
theorem d_World_placeOf_0 : decode y_World_placeOf.2.1 0 = .ok (.iload_n 1, 1) := by decide +kernel
theorem d_World_placeOf_1 : decode y_World_placeOf.2.1 1 = .ok (.sipush 255, 3) := by decide +kernel
theorem d_World_placeOf_4 : decode y_World_placeOf.2.1 4 = .ok (.iand, 1) := by decide +kernel
theorem d_World_placeOf_5 : decode y_World_placeOf.2.1 5 = .ok (.istore_n 2, 1) := by decide +kernel
theorem d_World_placeOf_6 : decode y_World_placeOf.2.1 6 = .ok (.aload_n 0, 1) := by decide +kernel
theorem d_World_placeOf_7 : decode y_World_placeOf.2.1 7 = .ok (.getfield 13, 3) := by decide +kernel
theorem d_World_placeOf_10 : decode y_World_placeOf.2.1 10 = .ok (.iload_n 2, 1) := by decide +kernel
theorem d_World_placeOf_11 : decode y_World_placeOf.2.1 11 = .ok (.iaload, 1) := by decide +kernel
theorem d_World_placeOf_12 : decode y_World_placeOf.2.1 12 = .ok (.ifCond .lt 24, 3) := by decide +kernel
theorem d_World_placeOf_15 : decode y_World_placeOf.2.1 15 = .ok (.iload_n 1, 1) := by decide +kernel
theorem d_World_placeOf_16 : decode y_World_placeOf.2.1 16 = .ok (.ifCond .lt 20, 3) := by decide +kernel
theorem d_World_placeOf_19 : decode y_World_placeOf.2.1 19 = .ok (.iload_n 1, 1) := by decide +kernel
theorem d_World_placeOf_20 : decode y_World_placeOf.2.1 20 = .ok (.bipush 8, 2) := by decide +kernel
theorem d_World_placeOf_22 : decode y_World_placeOf.2.1 22 = .ok (.iushr, 1) := by decide +kernel
theorem d_World_placeOf_23 : decode y_World_placeOf.2.1 23 = .ok (.aload_n 0, 1) := by decide +kernel
theorem d_World_placeOf_24 : decode y_World_placeOf.2.1 24 = .ok (.getfield 9, 3) := by decide +kernel
theorem d_World_placeOf_27 : decode y_World_placeOf.2.1 27 = .ok (.iload_n 2, 1) := by decide +kernel
theorem d_World_placeOf_28 : decode y_World_placeOf.2.1 28 = .ok (.iaload, 1) := by decide +kernel
theorem d_World_placeOf_29 : decode y_World_placeOf.2.1 29 = .ok (.if_icmp .ne 7, 3) := by decide +kernel
theorem d_World_placeOf_32 : decode y_World_placeOf.2.1 32 = .ok (.iload_n 2, 1) := by decide +kernel
theorem d_World_placeOf_33 : decode y_World_placeOf.2.1 33 = .ok (.goto 4, 3) := by decide +kernel
theorem d_World_placeOf_36 : decode y_World_placeOf.2.1 36 = .ok (.iconst (-1), 1) := by decide +kernel
theorem d_World_placeOf_37 : decode y_World_placeOf.2.1 37 = .ok (.ireturn, 1) := by decide +kernel
def y_World_noteFailure : ab_Y := (⟨"WorldEngine$World", "noteFailure", "(III)V"⟩, prog_12_method_17_code, 4, none, [])
theorem d_World_noteFailure_0 : decode y_World_noteFailure.2.1 0 = .ok (.aload_n 0, 1) := by decide +kernel
theorem d_World_noteFailure_1 : decode y_World_noteFailure.2.1 1 = .ok (.dup, 1) := by decide +kernel
theorem d_World_noteFailure_2 : decode y_World_noteFailure.2.1 2 = .ok (.getfield 40, 3) := by decide +kernel
theorem d_World_noteFailure_5 : decode y_World_noteFailure.2.1 5 = .ok (.iconst 1, 1) := by decide +kernel
theorem d_World_noteFailure_6 : decode y_World_noteFailure.2.1 6 = .ok (.iadd, 1) := by decide +kernel
theorem d_World_noteFailure_7 : decode y_World_noteFailure.2.1 7 = .ok (.putfield 40, 3) := by decide +kernel
theorem d_World_noteFailure_10 : decode y_World_noteFailure.2.1 10 = .ok (.aload_n 0, 1) := by decide +kernel
theorem d_World_noteFailure_11 : decode y_World_noteFailure.2.1 11 = .ok (.getfield 46, 3) := by decide +kernel
theorem d_World_noteFailure_14 : decode y_World_noteFailure.2.1 14 = .ok (.ifCond .ne 18, 3) := by decide +kernel
theorem d_World_noteFailure_17 : decode y_World_noteFailure.2.1 17 = .ok (.aload_n 0, 1) := by decide +kernel
theorem d_World_noteFailure_18 : decode y_World_noteFailure.2.1 18 = .ok (.iload_n 1, 1) := by decide +kernel
theorem d_World_noteFailure_19 : decode y_World_noteFailure.2.1 19 = .ok (.putfield 61, 3) := by decide +kernel
theorem d_World_noteFailure_22 : decode y_World_noteFailure.2.1 22 = .ok (.aload_n 0, 1) := by decide +kernel
theorem d_World_noteFailure_23 : decode y_World_noteFailure.2.1 23 = .ok (.iload_n 2, 1) := by decide +kernel
theorem d_World_noteFailure_24 : decode y_World_noteFailure.2.1 24 = .ok (.putfield 64, 3) := by decide +kernel
theorem d_World_noteFailure_27 : decode y_World_noteFailure.2.1 27 = .ok (.aload_n 0, 1) := by decide +kernel
theorem d_World_noteFailure_28 : decode y_World_noteFailure.2.1 28 = .ok (.iload_n 3, 1) := by decide +kernel
theorem d_World_noteFailure_29 : decode y_World_noteFailure.2.1 29 = .ok (.putfield 46, 3) := by decide +kernel
theorem d_World_noteFailure_32 : decode y_World_noteFailure.2.1 32 = .ok (.return_, 1) := by decide +kernel
def y_World_bear : ab_Y := (⟨"WorldEngine$World", "bear", "(LWorldEngine$Program;I)I"⟩, prog_12_method_13_code, 4, (some FieldType.int), [])
theorem d_World_bear_0 : decode y_World_bear.2.1 0 = .ok (.iconst 0, 1) := by decide +kernel
theorem d_World_bear_1 : decode y_World_bear.2.1 1 = .ok (.istore_n 3, 1) := by decide +kernel
theorem d_World_bear_2 : decode y_World_bear.2.1 2 = .ok (.iload_n 3, 1) := by decide +kernel
theorem d_World_bear_3 : decode y_World_bear.2.1 3 = .ok (.sipush 256, 3) := by decide +kernel
theorem d_World_bear_6 : decode y_World_bear.2.1 6 = .ok (.if_icmp .ge 18, 3) := by decide +kernel
theorem d_World_bear_9 : decode y_World_bear.2.1 9 = .ok (.aload_n 0, 1) := by decide +kernel
theorem d_World_bear_10 : decode y_World_bear.2.1 10 = .ok (.getfield 13, 3) := by decide +kernel
theorem d_World_bear_13 : decode y_World_bear.2.1 13 = .ok (.iload_n 3, 1) := by decide +kernel
theorem d_World_bear_14 : decode y_World_bear.2.1 14 = .ok (.iaload, 1) := by decide +kernel
theorem d_World_bear_15 : decode y_World_bear.2.1 15 = .ok (.ifCond .lt 9, 3) := by decide +kernel
theorem d_World_bear_18 : decode y_World_bear.2.1 18 = .ok (.iinc 3 1, 3) := by decide +kernel
theorem d_World_bear_21 : decode y_World_bear.2.1 21 = .ok (.goto (-19), 3) := by decide +kernel
theorem d_World_bear_24 : decode y_World_bear.2.1 24 = .ok (.iload_n 3, 1) := by decide +kernel
theorem d_World_bear_25 : decode y_World_bear.2.1 25 = .ok (.sipush 256, 3) := by decide +kernel
theorem d_World_bear_28 : decode y_World_bear.2.1 28 = .ok (.if_icmp .lt 5, 3) := by decide +kernel
theorem d_World_bear_31 : decode y_World_bear.2.1 31 = .ok (.iconst (-1), 1) := by decide +kernel
theorem d_World_bear_32 : decode y_World_bear.2.1 32 = .ok (.ireturn, 1) := by decide +kernel
theorem d_World_bear_33 : decode y_World_bear.2.1 33 = .ok (.aload_n 0, 1) := by decide +kernel
theorem d_World_bear_34 : decode y_World_bear.2.1 34 = .ok (.iload_n 3, 1) := by decide +kernel
theorem d_World_bear_35 : decode y_World_bear.2.1 35 = .ok (.aload_n 1, 1) := by decide +kernel
theorem d_World_bear_36 : decode y_World_bear.2.1 36 = .ok (.getfield 89, 3) := by decide +kernel
theorem d_World_bear_39 : decode y_World_bear.2.1 39 = .ok (.iload_n 2, 1) := by decide +kernel
theorem d_World_bear_40 : decode y_World_bear.2.1 40 = .ok (.iaload, 1) := by decide +kernel
theorem d_World_bear_41 : decode y_World_bear.2.1 41 = .ok (.invokevirtual 92, 3) := by decide +kernel
theorem d_World_bear_44 : decode y_World_bear.2.1 44 = .ok (.aload_n 1, 1) := by decide +kernel
theorem d_World_bear_45 : decode y_World_bear.2.1 45 = .ok (.getfield 96, 3) := by decide +kernel
theorem d_World_bear_48 : decode y_World_bear.2.1 48 = .ok (.iload_n 2, 1) := by decide +kernel
theorem d_World_bear_49 : decode y_World_bear.2.1 49 = .ok (.bipush 48, 2) := by decide +kernel
theorem d_World_bear_51 : decode y_World_bear.2.1 51 = .ok (.imul, 1) := by decide +kernel
theorem d_World_bear_52 : decode y_World_bear.2.1 52 = .ok (.aload_n 0, 1) := by decide +kernel
theorem d_World_bear_53 : decode y_World_bear.2.1 53 = .ok (.getfield 24, 3) := by decide +kernel
theorem d_World_bear_56 : decode y_World_bear.2.1 56 = .ok (.iload_n 3, 1) := by decide +kernel
theorem d_World_bear_57 : decode y_World_bear.2.1 57 = .ok (.aload_n 0, 1) := by decide +kernel
theorem d_World_bear_58 : decode y_World_bear.2.1 58 = .ok (.getfield 52, 3) := by decide +kernel
theorem d_World_bear_61 : decode y_World_bear.2.1 61 = .ok (.imul, 1) := by decide +kernel
theorem d_World_bear_62 : decode y_World_bear.2.1 62 = .ok (.aload_n 0, 1) := by decide +kernel
theorem d_World_bear_63 : decode y_World_bear.2.1 63 = .ok (.getfield 52, 3) := by decide +kernel
theorem d_World_bear_66 : decode y_World_bear.2.1 66 = .ok (.invokestatic 67, 3) := by decide +kernel
theorem d_World_bear_69 : decode y_World_bear.2.1 69 = .ok (.iload_n 3, 1) := by decide +kernel
theorem d_World_bear_70 : decode y_World_bear.2.1 70 = .ok (.ireturn, 1) := by decide +kernel
def y_World_occupy : ab_Y := (⟨"WorldEngine$World", "occupy", "(II)V"⟩, prog_12_method_12_code, 3, none, [])
theorem d_World_occupy_0 : decode y_World_occupy.2.1 0 = .ok (.aload_n 0, 1) := by decide +kernel
theorem d_World_occupy_1 : decode y_World_occupy.2.1 1 = .ok (.getfield 13, 3) := by decide +kernel
theorem d_World_occupy_4 : decode y_World_occupy.2.1 4 = .ok (.iload_n 1, 1) := by decide +kernel
theorem d_World_occupy_5 : decode y_World_occupy.2.1 5 = .ok (.iload_n 2, 1) := by decide +kernel
theorem d_World_occupy_6 : decode y_World_occupy.2.1 6 = .ok (.iastore, 1) := by decide +kernel
theorem d_World_occupy_7 : decode y_World_occupy.2.1 7 = .ok (.aload_n 0, 1) := by decide +kernel
theorem d_World_occupy_8 : decode y_World_occupy.2.1 8 = .ok (.aload_n 0, 1) := by decide +kernel
theorem d_World_occupy_9 : decode y_World_occupy.2.1 9 = .ok (.getfield 49, 3) := by decide +kernel
theorem d_World_occupy_12 : decode y_World_occupy.2.1 12 = .ok (.iload_n 1, 1) := by decide +kernel
theorem d_World_occupy_13 : decode y_World_occupy.2.1 13 = .ok (.iconst 1, 1) := by decide +kernel
theorem d_World_occupy_14 : decode y_World_occupy.2.1 14 = .ok (.iadd, 1) := by decide +kernel
theorem d_World_occupy_15 : decode y_World_occupy.2.1 15 = .ok (.invokestatic 83, 3) := by decide +kernel
theorem d_World_occupy_18 : decode y_World_occupy.2.1 18 = .ok (.putfield 49, 3) := by decide +kernel
theorem d_World_occupy_21 : decode y_World_occupy.2.1 21 = .ok (.return_, 1) := by decide +kernel
def y_World_remove : ab_Y := (⟨"WorldEngine$World", "remove", "(I)V"⟩, prog_12_method_14_code, 2, none, [])
theorem d_World_remove_0 : decode y_World_remove.2.1 0 = .ok (.aload_n 0, 1) := by decide +kernel
theorem d_World_remove_1 : decode y_World_remove.2.1 1 = .ok (.getfield 13, 3) := by decide +kernel
theorem d_World_remove_4 : decode y_World_remove.2.1 4 = .ok (.iload_n 1, 1) := by decide +kernel
theorem d_World_remove_5 : decode y_World_remove.2.1 5 = .ok (.iconst (-1), 1) := by decide +kernel
theorem d_World_remove_6 : decode y_World_remove.2.1 6 = .ok (.iastore, 1) := by decide +kernel
theorem d_World_remove_7 : decode y_World_remove.2.1 7 = .ok (.aload_n 0, 1) := by decide +kernel
theorem d_World_remove_8 : decode y_World_remove.2.1 8 = .ok (.getfield 9, 3) := by decide +kernel
theorem d_World_remove_11 : decode y_World_remove.2.1 11 = .ok (.iload_n 1, 1) := by decide +kernel
theorem d_World_remove_12 : decode y_World_remove.2.1 12 = .ok (.dup2, 1) := by decide +kernel
theorem d_World_remove_13 : decode y_World_remove.2.1 13 = .ok (.iaload, 1) := by decide +kernel
theorem d_World_remove_14 : decode y_World_remove.2.1 14 = .ok (.iconst 1, 1) := by decide +kernel
theorem d_World_remove_15 : decode y_World_remove.2.1 15 = .ok (.iadd, 1) := by decide +kernel
theorem d_World_remove_16 : decode y_World_remove.2.1 16 = .ok (.iastore, 1) := by decide +kernel
theorem d_World_remove_17 : decode y_World_remove.2.1 17 = .ok (.return_, 1) := by decide +kernel
def y_World_giveAt : ab_Y := (⟨"WorldEngine$World", "giveAt", "(LWorldEngine$Program;II)V"⟩, prog_12_method_15_code, 6, none, [])
theorem d_World_giveAt_0 : decode y_World_giveAt.2.1 0 = .ok (.aload_n 0, 1) := by decide +kernel
theorem d_World_giveAt_1 : decode y_World_giveAt.2.1 1 = .ok (.getfield 13, 3) := by decide +kernel
theorem d_World_giveAt_4 : decode y_World_giveAt.2.1 4 = .ok (.iload_n 2, 1) := by decide +kernel
theorem d_World_giveAt_5 : decode y_World_giveAt.2.1 5 = .ok (.dup2, 1) := by decide +kernel
theorem d_World_giveAt_6 : decode y_World_giveAt.2.1 6 = .ok (.iaload, 1) := by decide +kernel
theorem d_World_giveAt_7 : decode y_World_giveAt.2.1 7 = .ok (.iconst 1, 1) := by decide +kernel
theorem d_World_giveAt_8 : decode y_World_giveAt.2.1 8 = .ok (.iload_n 3, 1) := by decide +kernel
theorem d_World_giveAt_9 : decode y_World_giveAt.2.1 9 = .ok (.ishl, 1) := by decide +kernel
theorem d_World_giveAt_10 : decode y_World_giveAt.2.1 10 = .ok (.ior, 1) := by decide +kernel
theorem d_World_giveAt_11 : decode y_World_giveAt.2.1 11 = .ok (.iastore, 1) := by decide +kernel
theorem d_World_giveAt_12 : decode y_World_giveAt.2.1 12 = .ok (.aload_n 1, 1) := by decide +kernel
theorem d_World_giveAt_13 : decode y_World_giveAt.2.1 13 = .ok (.getfield 99, 3) := by decide +kernel
theorem d_World_giveAt_16 : decode y_World_giveAt.2.1 16 = .ok (.astore 4, 2) := by decide +kernel
theorem d_World_giveAt_18 : decode y_World_giveAt.2.1 18 = .ok (.aload 4, 2) := by decide +kernel
theorem d_World_giveAt_20 : decode y_World_giveAt.2.1 20 = .ok (.getfield 103, 3) := by decide +kernel
theorem d_World_giveAt_23 : decode y_World_giveAt.2.1 23 = .ok (.iload_n 3, 1) := by decide +kernel
theorem d_World_giveAt_24 : decode y_World_giveAt.2.1 24 = .ok (.iaload, 1) := by decide +kernel
theorem d_World_giveAt_25 : decode y_World_giveAt.2.1 25 = .ok (.istore 5, 2) := by decide +kernel
theorem d_World_giveAt_27 : decode y_World_giveAt.2.1 27 = .ok (.iload 5, 2) := by decide +kernel
theorem d_World_giveAt_29 : decode y_World_giveAt.2.1 29 = .ok (.aload 4, 2) := by decide +kernel
theorem d_World_giveAt_31 : decode y_World_giveAt.2.1 31 = .ok (.getfield 103, 3) := by decide +kernel
theorem d_World_giveAt_34 : decode y_World_giveAt.2.1 34 = .ok (.iload_n 3, 1) := by decide +kernel
theorem d_World_giveAt_35 : decode y_World_giveAt.2.1 35 = .ok (.iconst 1, 1) := by decide +kernel
theorem d_World_giveAt_36 : decode y_World_giveAt.2.1 36 = .ok (.iadd, 1) := by decide +kernel
theorem d_World_giveAt_37 : decode y_World_giveAt.2.1 37 = .ok (.iaload, 1) := by decide +kernel
theorem d_World_giveAt_38 : decode y_World_giveAt.2.1 38 = .ok (.if_icmp .ge 22, 3) := by decide +kernel
theorem d_World_giveAt_41 : decode y_World_giveAt.2.1 41 = .ok (.aload_n 0, 1) := by decide +kernel
theorem d_World_giveAt_42 : decode y_World_giveAt.2.1 42 = .ok (.iload_n 2, 1) := by decide +kernel
theorem d_World_giveAt_43 : decode y_World_giveAt.2.1 43 = .ok (.iload 5, 2) := by decide +kernel
theorem d_World_giveAt_45 : decode y_World_giveAt.2.1 45 = .ok (.aload_n 1, 1) := by decide +kernel
theorem d_World_giveAt_46 : decode y_World_giveAt.2.1 46 = .ok (.iload 5, 2) := by decide +kernel
theorem d_World_giveAt_48 : decode y_World_giveAt.2.1 48 = .ok (.invokevirtual 108, 3) := by decide +kernel
theorem d_World_giveAt_51 : decode y_World_giveAt.2.1 51 = .ok (.invokevirtual 111, 3) := by decide +kernel
theorem d_World_giveAt_54 : decode y_World_giveAt.2.1 54 = .ok (.iinc 5 1, 3) := by decide +kernel
theorem d_World_giveAt_57 : decode y_World_giveAt.2.1 57 = .ok (.goto (-30), 3) := by decide +kernel
theorem d_World_giveAt_60 : decode y_World_giveAt.2.1 60 = .ok (.return_, 1) := by decide +kernel
def y_World_takeAt : ab_Y := (⟨"WorldEngine$World", "takeAt", "(II)V"⟩, prog_12_method_16_code, 3, none, [])
theorem d_World_takeAt_0 : decode y_World_takeAt.2.1 0 = .ok (.aload_n 0, 1) := by decide +kernel
theorem d_World_takeAt_1 : decode y_World_takeAt.2.1 1 = .ok (.getfield 13, 3) := by decide +kernel
theorem d_World_takeAt_4 : decode y_World_takeAt.2.1 4 = .ok (.iload_n 1, 1) := by decide +kernel
theorem d_World_takeAt_5 : decode y_World_takeAt.2.1 5 = .ok (.dup2, 1) := by decide +kernel
theorem d_World_takeAt_6 : decode y_World_takeAt.2.1 6 = .ok (.iaload, 1) := by decide +kernel
theorem d_World_takeAt_7 : decode y_World_takeAt.2.1 7 = .ok (.iconst 1, 1) := by decide +kernel
theorem d_World_takeAt_8 : decode y_World_takeAt.2.1 8 = .ok (.iload_n 2, 1) := by decide +kernel
theorem d_World_takeAt_9 : decode y_World_takeAt.2.1 9 = .ok (.ishl, 1) := by decide +kernel
theorem d_World_takeAt_10 : decode y_World_takeAt.2.1 10 = .ok (.iconst (-1), 1) := by decide +kernel
theorem d_World_takeAt_11 : decode y_World_takeAt.2.1 11 = .ok (.ixor, 1) := by decide +kernel
theorem d_World_takeAt_12 : decode y_World_takeAt.2.1 12 = .ok (.iand, 1) := by decide +kernel
theorem d_World_takeAt_13 : decode y_World_takeAt.2.1 13 = .ok (.iastore, 1) := by decide +kernel
theorem d_World_takeAt_14 : decode y_World_takeAt.2.1 14 = .ok (.return_, 1) := by decide +kernel
def y_World_dropDue : ab_Y := (⟨"WorldEngine$World", "dropDue", "()V"⟩, prog_12_method_18_code, 3, none, [])
theorem d_World_dropDue_0 : decode y_World_dropDue.2.1 0 = .ok (.iconst 0, 1) := by decide +kernel
theorem d_World_dropDue_1 : decode y_World_dropDue.2.1 1 = .ok (.istore_n 1, 1) := by decide +kernel
theorem d_World_dropDue_2 : decode y_World_dropDue.2.1 2 = .ok (.iconst 0, 1) := by decide +kernel
theorem d_World_dropDue_3 : decode y_World_dropDue.2.1 3 = .ok (.istore_n 2, 1) := by decide +kernel
theorem d_World_dropDue_4 : decode y_World_dropDue.2.1 4 = .ok (.iload_n 2, 1) := by decide +kernel
theorem d_World_dropDue_5 : decode y_World_dropDue.2.1 5 = .ok (.aload_n 0, 1) := by decide +kernel
theorem d_World_dropDue_6 : decode y_World_dropDue.2.1 6 = .ok (.getfield 55, 3) := by decide +kernel
theorem d_World_dropDue_9 : decode y_World_dropDue.2.1 9 = .ok (.if_icmp .ge 51, 3) := by decide +kernel
theorem d_World_dropDue_12 : decode y_World_dropDue.2.1 12 = .ok (.aload_n 0, 1) := by decide +kernel
theorem d_World_dropDue_13 : decode y_World_dropDue.2.1 13 = .ok (.getfield 27, 3) := by decide +kernel
theorem d_World_dropDue_16 : decode y_World_dropDue.2.1 16 = .ok (.iload_n 2, 1) := by decide +kernel
theorem d_World_dropDue_17 : decode y_World_dropDue.2.1 17 = .ok (.bipush 7, 2) := by decide +kernel
theorem d_World_dropDue_19 : decode y_World_dropDue.2.1 19 = .ok (.imul, 1) := by decide +kernel
theorem d_World_dropDue_20 : decode y_World_dropDue.2.1 20 = .ok (.iconst 1, 1) := by decide +kernel
theorem d_World_dropDue_21 : decode y_World_dropDue.2.1 21 = .ok (.iadd, 1) := by decide +kernel
theorem d_World_dropDue_22 : decode y_World_dropDue.2.1 22 = .ok (.iaload, 1) := by decide +kernel
theorem d_World_dropDue_23 : decode y_World_dropDue.2.1 23 = .ok (.aload_n 0, 1) := by decide +kernel
theorem d_World_dropDue_24 : decode y_World_dropDue.2.1 24 = .ok (.getfield 33, 3) := by decide +kernel
theorem d_World_dropDue_27 : decode y_World_dropDue.2.1 27 = .ok (.if_icmp .eq 27, 3) := by decide +kernel
theorem d_World_dropDue_30 : decode y_World_dropDue.2.1 30 = .ok (.aload_n 0, 1) := by decide +kernel
theorem d_World_dropDue_31 : decode y_World_dropDue.2.1 31 = .ok (.getfield 27, 3) := by decide +kernel
theorem d_World_dropDue_34 : decode y_World_dropDue.2.1 34 = .ok (.iload_n 2, 1) := by decide +kernel
theorem d_World_dropDue_35 : decode y_World_dropDue.2.1 35 = .ok (.bipush 7, 2) := by decide +kernel
theorem d_World_dropDue_37 : decode y_World_dropDue.2.1 37 = .ok (.imul, 1) := by decide +kernel
theorem d_World_dropDue_38 : decode y_World_dropDue.2.1 38 = .ok (.aload_n 0, 1) := by decide +kernel
theorem d_World_dropDue_39 : decode y_World_dropDue.2.1 39 = .ok (.getfield 27, 3) := by decide +kernel
theorem d_World_dropDue_42 : decode y_World_dropDue.2.1 42 = .ok (.iload_n 1, 1) := by decide +kernel
theorem d_World_dropDue_43 : decode y_World_dropDue.2.1 43 = .ok (.bipush 7, 2) := by decide +kernel
theorem d_World_dropDue_45 : decode y_World_dropDue.2.1 45 = .ok (.imul, 1) := by decide +kernel
theorem d_World_dropDue_46 : decode y_World_dropDue.2.1 46 = .ok (.bipush 7, 2) := by decide +kernel
theorem d_World_dropDue_48 : decode y_World_dropDue.2.1 48 = .ok (.invokestatic 67, 3) := by decide +kernel
theorem d_World_dropDue_51 : decode y_World_dropDue.2.1 51 = .ok (.iinc 1 1, 3) := by decide +kernel
theorem d_World_dropDue_54 : decode y_World_dropDue.2.1 54 = .ok (.iinc 2 1, 3) := by decide +kernel
theorem d_World_dropDue_57 : decode y_World_dropDue.2.1 57 = .ok (.goto (-53), 3) := by decide +kernel
theorem d_World_dropDue_60 : decode y_World_dropDue.2.1 60 = .ok (.aload_n 0, 1) := by decide +kernel
theorem d_World_dropDue_61 : decode y_World_dropDue.2.1 61 = .ok (.iload_n 1, 1) := by decide +kernel
theorem d_World_dropDue_62 : decode y_World_dropDue.2.1 62 = .ok (.putfield 55, 3) := by decide +kernel
theorem d_World_dropDue_65 : decode y_World_dropDue.2.1 65 = .ok (.return_, 1) := by decide +kernel
def y_World_matchAt : ab_Y := (⟨"WorldEngine$World", "matchAt", "(III)I"⟩, prog_12_method_8_code, 6, (some FieldType.int), [])
theorem d_World_matchAt_0 : decode y_World_matchAt.2.1 0 = .ok (.iload_n 3, 1) := by decide +kernel
theorem d_World_matchAt_1 : decode y_World_matchAt.2.1 1 = .ok (.istore 4, 2) := by decide +kernel
theorem d_World_matchAt_3 : decode y_World_matchAt.2.1 3 = .ok (.iconst 0, 1) := by decide +kernel
theorem d_World_matchAt_4 : decode y_World_matchAt.2.1 4 = .ok (.istore 5, 2) := by decide +kernel
theorem d_World_matchAt_6 : decode y_World_matchAt.2.1 6 = .ok (.iload 5, 2) := by decide +kernel
theorem d_World_matchAt_8 : decode y_World_matchAt.2.1 8 = .ok (.aload_n 0, 1) := by decide +kernel
theorem d_World_matchAt_9 : decode y_World_matchAt.2.1 9 = .ok (.getfield 49, 3) := by decide +kernel
theorem d_World_matchAt_12 : decode y_World_matchAt.2.1 12 = .ok (.if_icmp .ge 35, 3) := by decide +kernel
theorem d_World_matchAt_15 : decode y_World_matchAt.2.1 15 = .ok (.aload_n 0, 1) := by decide +kernel
theorem d_World_matchAt_16 : decode y_World_matchAt.2.1 16 = .ok (.iload 5, 2) := by decide +kernel
theorem d_World_matchAt_18 : decode y_World_matchAt.2.1 18 = .ok (.iload_n 1, 1) := by decide +kernel
theorem d_World_matchAt_19 : decode y_World_matchAt.2.1 19 = .ok (.iload_n 2, 1) := by decide +kernel
theorem d_World_matchAt_20 : decode y_World_matchAt.2.1 20 = .ok (.invokevirtual 73, 3) := by decide +kernel
theorem d_World_matchAt_23 : decode y_World_matchAt.2.1 23 = .ok (.ifCond .eq 18, 3) := by decide +kernel
theorem d_World_matchAt_26 : decode y_World_matchAt.2.1 26 = .ok (.iload 4, 2) := by decide +kernel
theorem d_World_matchAt_28 : decode y_World_matchAt.2.1 28 = .ok (.ifCond .ne 10, 3) := by decide +kernel
theorem d_World_matchAt_31 : decode y_World_matchAt.2.1 31 = .ok (.aload_n 0, 1) := by decide +kernel
theorem d_World_matchAt_32 : decode y_World_matchAt.2.1 32 = .ok (.iload 5, 2) := by decide +kernel
theorem d_World_matchAt_34 : decode y_World_matchAt.2.1 34 = .ok (.invokevirtual 77, 3) := by decide +kernel
theorem d_World_matchAt_37 : decode y_World_matchAt.2.1 37 = .ok (.ireturn, 1) := by decide +kernel
theorem d_World_matchAt_38 : decode y_World_matchAt.2.1 38 = .ok (.iinc 4 (-1), 3) := by decide +kernel
theorem d_World_matchAt_41 : decode y_World_matchAt.2.1 41 = .ok (.iinc 5 1, 3) := by decide +kernel
theorem d_World_matchAt_44 : decode y_World_matchAt.2.1 44 = .ok (.goto (-38), 3) := by decide +kernel
theorem d_World_matchAt_47 : decode y_World_matchAt.2.1 47 = .ok (.iconst (-1), 1) := by decide +kernel
theorem d_World_matchAt_48 : decode y_World_matchAt.2.1 48 = .ok (.ireturn, 1) := by decide +kernel
def y_World_entityCount : ab_Y := (⟨"WorldEngine$World", "entityCount", "()I"⟩, prog_12_method_9_code, 3, (some FieldType.int), [])
theorem d_World_entityCount_0 : decode y_World_entityCount.2.1 0 = .ok (.iconst 0, 1) := by decide +kernel
theorem d_World_entityCount_1 : decode y_World_entityCount.2.1 1 = .ok (.istore_n 1, 1) := by decide +kernel
theorem d_World_entityCount_2 : decode y_World_entityCount.2.1 2 = .ok (.iconst 0, 1) := by decide +kernel
theorem d_World_entityCount_3 : decode y_World_entityCount.2.1 3 = .ok (.istore_n 2, 1) := by decide +kernel
theorem d_World_entityCount_4 : decode y_World_entityCount.2.1 4 = .ok (.iload_n 2, 1) := by decide +kernel
theorem d_World_entityCount_5 : decode y_World_entityCount.2.1 5 = .ok (.aload_n 0, 1) := by decide +kernel
theorem d_World_entityCount_6 : decode y_World_entityCount.2.1 6 = .ok (.getfield 49, 3) := by decide +kernel
theorem d_World_entityCount_9 : decode y_World_entityCount.2.1 9 = .ok (.if_icmp .ge 21, 3) := by decide +kernel
theorem d_World_entityCount_12 : decode y_World_entityCount.2.1 12 = .ok (.aload_n 0, 1) := by decide +kernel
theorem d_World_entityCount_13 : decode y_World_entityCount.2.1 13 = .ok (.getfield 13, 3) := by decide +kernel
theorem d_World_entityCount_16 : decode y_World_entityCount.2.1 16 = .ok (.iload_n 2, 1) := by decide +kernel
theorem d_World_entityCount_17 : decode y_World_entityCount.2.1 17 = .ok (.iaload, 1) := by decide +kernel
theorem d_World_entityCount_18 : decode y_World_entityCount.2.1 18 = .ok (.ifCond .lt 6, 3) := by decide +kernel
theorem d_World_entityCount_21 : decode y_World_entityCount.2.1 21 = .ok (.iinc 1 1, 3) := by decide +kernel
theorem d_World_entityCount_24 : decode y_World_entityCount.2.1 24 = .ok (.iinc 2 1, 3) := by decide +kernel
theorem d_World_entityCount_27 : decode y_World_entityCount.2.1 27 = .ok (.goto (-23), 3) := by decide +kernel
theorem d_World_entityCount_30 : decode y_World_entityCount.2.1 30 = .ok (.iload_n 1, 1) := by decide +kernel
theorem d_World_entityCount_31 : decode y_World_entityCount.2.1 31 = .ok (.ireturn, 1) := by decide +kernel
def y_Math_max : ab_Y := (⟨"java/lang/Math", "max", "(II)I"⟩, prog_23_method_65_code, 2, (some FieldType.int), [])
theorem d_Math_max_0 : decode y_Math_max.2.1 0 = .ok (.iload_n 0, 1) := by decide +kernel
theorem d_Math_max_1 : decode y_Math_max.2.1 1 = .ok (.iload_n 1, 1) := by decide +kernel
theorem d_Math_max_2 : decode y_Math_max.2.1 2 = .ok (.if_icmp .lt 7, 3) := by decide +kernel
theorem d_Math_max_5 : decode y_Math_max.2.1 5 = .ok (.iload_n 0, 1) := by decide +kernel
theorem d_Math_max_6 : decode y_Math_max.2.1 6 = .ok (.goto 4, 3) := by decide +kernel
theorem d_Math_max_9 : decode y_Math_max.2.1 9 = .ok (.iload_n 1, 1) := by decide +kernel
theorem d_Math_max_10 : decode y_Math_max.2.1 10 = .ok (.ireturn, 1) := by decide +kernel
def y_Math_min : ab_Y := (⟨"java/lang/Math", "min", "(II)I"⟩, prog_23_method_69_code, 2, (some FieldType.int), [])
theorem d_Math_min_0 : decode y_Math_min.2.1 0 = .ok (.iload_n 0, 1) := by decide +kernel
theorem d_Math_min_1 : decode y_Math_min.2.1 1 = .ok (.iload_n 1, 1) := by decide +kernel
theorem d_Math_min_2 : decode y_Math_min.2.1 2 = .ok (.if_icmp .gt 7, 3) := by decide +kernel
theorem d_Math_min_5 : decode y_Math_min.2.1 5 = .ok (.iload_n 0, 1) := by decide +kernel
theorem d_Math_min_6 : decode y_Math_min.2.1 6 = .ok (.goto 4, 3) := by decide +kernel
theorem d_Math_min_9 : decode y_Math_min.2.1 9 = .ok (.iload_n 1, 1) := by decide +kernel
theorem d_Math_min_10 : decode y_Math_min.2.1 10 = .ok (.ireturn, 1) := by decide +kernel
def y_Math_max2 : ab_Y := (⟨"java/lang/Math", "max", "(JJ)J"⟩, prog_23_method_66_code, 4, (some FieldType.long), [])
theorem d_Math_max2_0 : decode y_Math_max2.2.1 0 = .ok (.lload_n 0, 1) := by decide +kernel
theorem d_Math_max2_1 : decode y_Math_max2.2.1 1 = .ok (.lload_n 2, 1) := by decide +kernel
theorem d_Math_max2_2 : decode y_Math_max2.2.1 2 = .ok (.lcmp, 1) := by decide +kernel
theorem d_Math_max2_3 : decode y_Math_max2.2.1 3 = .ok (.ifCond .lt 7, 3) := by decide +kernel
theorem d_Math_max2_6 : decode y_Math_max2.2.1 6 = .ok (.lload_n 0, 1) := by decide +kernel
theorem d_Math_max2_7 : decode y_Math_max2.2.1 7 = .ok (.goto 4, 3) := by decide +kernel
theorem d_Math_max2_10 : decode y_Math_max2.2.1 10 = .ok (.lload_n 2, 1) := by decide +kernel
theorem d_Math_max2_11 : decode y_Math_max2.2.1 11 = .ok (.lreturn, 1) := by decide +kernel
def y_Math_min2 : ab_Y := (⟨"java/lang/Math", "min", "(JJ)J"⟩, prog_23_method_70_code, 4, (some FieldType.long), [])
theorem d_Math_min2_0 : decode y_Math_min2.2.1 0 = .ok (.lload_n 0, 1) := by decide +kernel
theorem d_Math_min2_1 : decode y_Math_min2.2.1 1 = .ok (.lload_n 2, 1) := by decide +kernel
theorem d_Math_min2_2 : decode y_Math_min2.2.1 2 = .ok (.lcmp, 1) := by decide +kernel
theorem d_Math_min2_3 : decode y_Math_min2.2.1 3 = .ok (.ifCond .gt 7, 3) := by decide +kernel
theorem d_Math_min2_6 : decode y_Math_min2.2.1 6 = .ok (.lload_n 0, 1) := by decide +kernel
theorem d_Math_min2_7 : decode y_Math_min2.2.1 7 = .ok (.goto 4, 3) := by decide +kernel
theorem d_Math_min2_10 : decode y_Math_min2.2.1 10 = .ok (.lload_n 2, 1) := by decide +kernel
theorem d_Math_min2_11 : decode y_Math_min2.2.1 11 = .ok (.lreturn, 1) := by decide +kernel
def y_Math_abs : ab_Y := (⟨"java/lang/Math", "abs", "(J)J"⟩, prog_23_method_61_code, 2, (some FieldType.long), [])
theorem d_Math_abs_0 : decode y_Math_abs.2.1 0 = .ok (.lload_n 0, 1) := by decide +kernel
theorem d_Math_abs_1 : decode y_Math_abs.2.1 1 = .ok (.lconst 0, 1) := by decide +kernel
theorem d_Math_abs_2 : decode y_Math_abs.2.1 2 = .ok (.lcmp, 1) := by decide +kernel
theorem d_Math_abs_3 : decode y_Math_abs.2.1 3 = .ok (.ifCond .ge 8, 3) := by decide +kernel
theorem d_Math_abs_6 : decode y_Math_abs.2.1 6 = .ok (.lload_n 0, 1) := by decide +kernel
theorem d_Math_abs_7 : decode y_Math_abs.2.1 7 = .ok (.lneg, 1) := by decide +kernel
theorem d_Math_abs_8 : decode y_Math_abs.2.1 8 = .ok (.goto 4, 3) := by decide +kernel
theorem d_Math_abs_11 : decode y_Math_abs.2.1 11 = .ok (.lload_n 0, 1) := by decide +kernel
theorem d_Math_abs_12 : decode y_Math_abs.2.1 12 = .ok (.lreturn, 1) := by decide +kernel
def y_Math_floorDiv : ab_Y := (⟨"java/lang/Math", "floorDiv", "(JJ)J"⟩, prog_23_method_49_code, 6, (some FieldType.long), [])
theorem d_Math_floorDiv_0 : decode y_Math_floorDiv.2.1 0 = .ok (.lload_n 0, 1) := by decide +kernel
theorem d_Math_floorDiv_1 : decode y_Math_floorDiv.2.1 1 = .ok (.lload_n 2, 1) := by decide +kernel
theorem d_Math_floorDiv_2 : decode y_Math_floorDiv.2.1 2 = .ok (.ldiv, 1) := by decide +kernel
theorem d_Math_floorDiv_3 : decode y_Math_floorDiv.2.1 3 = .ok (.lstore 4, 2) := by decide +kernel
theorem d_Math_floorDiv_5 : decode y_Math_floorDiv.2.1 5 = .ok (.lload_n 0, 1) := by decide +kernel
theorem d_Math_floorDiv_6 : decode y_Math_floorDiv.2.1 6 = .ok (.lload_n 2, 1) := by decide +kernel
theorem d_Math_floorDiv_7 : decode y_Math_floorDiv.2.1 7 = .ok (.lxor, 1) := by decide +kernel
theorem d_Math_floorDiv_8 : decode y_Math_floorDiv.2.1 8 = .ok (.lconst 0, 1) := by decide +kernel
theorem d_Math_floorDiv_9 : decode y_Math_floorDiv.2.1 9 = .ok (.lcmp, 1) := by decide +kernel
theorem d_Math_floorDiv_10 : decode y_Math_floorDiv.2.1 10 = .ok (.ifCond .ge 17, 3) := by decide +kernel
theorem d_Math_floorDiv_13 : decode y_Math_floorDiv.2.1 13 = .ok (.lload 4, 2) := by decide +kernel
theorem d_Math_floorDiv_15 : decode y_Math_floorDiv.2.1 15 = .ok (.lload_n 2, 1) := by decide +kernel
theorem d_Math_floorDiv_16 : decode y_Math_floorDiv.2.1 16 = .ok (.lmul, 1) := by decide +kernel
theorem d_Math_floorDiv_17 : decode y_Math_floorDiv.2.1 17 = .ok (.lload_n 0, 1) := by decide +kernel
theorem d_Math_floorDiv_18 : decode y_Math_floorDiv.2.1 18 = .ok (.lcmp, 1) := by decide +kernel
theorem d_Math_floorDiv_19 : decode y_Math_floorDiv.2.1 19 = .ok (.ifCond .eq 8, 3) := by decide +kernel
theorem d_Math_floorDiv_22 : decode y_Math_floorDiv.2.1 22 = .ok (.lload 4, 2) := by decide +kernel
theorem d_Math_floorDiv_24 : decode y_Math_floorDiv.2.1 24 = .ok (.lconst 1, 1) := by decide +kernel
theorem d_Math_floorDiv_25 : decode y_Math_floorDiv.2.1 25 = .ok (.lsub, 1) := by decide +kernel
theorem d_Math_floorDiv_26 : decode y_Math_floorDiv.2.1 26 = .ok (.lreturn, 1) := by decide +kernel
theorem d_Math_floorDiv_27 : decode y_Math_floorDiv.2.1 27 = .ok (.lload 4, 2) := by decide +kernel
theorem d_Math_floorDiv_29 : decode y_Math_floorDiv.2.1 29 = .ok (.lreturn, 1) := by decide +kernel
theorem s_World_init : ab_Stat y_World_init 0 := ⟨(k1 199 rfl rfl), (k1 10 rfl rfl), ⟨by decide, by decide⟩, by decide +kernel⟩
theorem i_World_init : Cond.instanceMethod y_World_init.1 ∈ ab_T := (k1 198 rfl rfl)
theorem s_World_clear : ab_Stat y_World_clear 2 := ⟨(k6 81 rfl rfl), (k1 10 rfl rfl), ⟨by decide, by decide⟩, by decide +kernel⟩
theorem i_World_clear : Cond.instanceMethod y_World_clear.1 ∈ ab_T := (k6 79 rfl rfl)
theorem v_World_clear : Cond.selects "WorldEngine$World" y_World_clear.1 y_World_clear.1 ∈ ab_T := (k6 80 rfl rfl)
theorem s_World_copyFrom : ab_Stat y_World_copyFrom 1 := ⟨(k6 110 rfl rfl), (k1 10 rfl rfl), ⟨by decide, by decide⟩, by decide +kernel⟩
theorem i_World_copyFrom : Cond.instanceMethod y_World_copyFrom.1 ∈ ab_T := (k6 108 rfl rfl)
theorem v_World_copyFrom : Cond.selects "WorldEngine$World" y_World_copyFrom.1 y_World_copyFrom.1 ∈ ab_T := (k6 109 rfl rfl)
theorem s_World_carryFrom : ab_Stat y_World_carryFrom 3 := ⟨(k6 117 rfl rfl), (k1 10 rfl rfl), ⟨by decide, by decide⟩, by decide +kernel⟩
theorem i_World_carryFrom : Cond.instanceMethod y_World_carryFrom.1 ∈ ab_T := (k6 115 rfl rfl)
theorem v_World_carryFrom : Cond.selects "WorldEngine$World" y_World_carryFrom.1 y_World_carryFrom.1 ∈ ab_T := (k6 116 rfl rfl)
theorem s_World_owns : ab_Stat y_World_owns 2 := ⟨(k6 126 rfl rfl), (k1 10 rfl rfl), ⟨by decide, by decide⟩, by decide +kernel⟩
theorem i_World_owns : Cond.instanceMethod y_World_owns.1 ∈ ab_T := (k6 124 rfl rfl)
theorem v_World_owns : Cond.selects "WorldEngine$World" y_World_owns.1 y_World_owns.1 ∈ ab_T := (k6 125 rfl rfl)
theorem s_World_carryMember : ab_Stat y_World_carryMember 5 := ⟨(k6 131 rfl rfl), (k1 10 rfl rfl), ⟨by decide, by decide⟩, by decide +kernel⟩
theorem i_World_carryMember : Cond.instanceMethod y_World_carryMember.1 ∈ ab_T := (k6 130 rfl rfl)
theorem v_World_carryMember : Cond.selects "WorldEngine$World" y_World_carryMember.1 y_World_carryMember.1 ∈ ab_T := ab_s (List.mem_of_getElem? (i := 63) rfl) rfl
theorem s_World_read : ab_Stat y_World_read 2 := ⟨(k6 136 rfl rfl), (k1 10 rfl rfl), ⟨by decide, by decide⟩, by decide +kernel⟩
theorem i_World_read : Cond.instanceMethod y_World_read.1 ∈ ab_T := (k6 134 rfl rfl)
theorem v_World_read : Cond.selects "WorldEngine$World" y_World_read.1 y_World_read.1 ∈ ab_T := (k6 135 rfl rfl)
theorem s_World_turned : ab_Stat y_World_turned 3 := ⟨(k6 139 rfl rfl), (k1 10 rfl rfl), ⟨by decide, by decide⟩, by decide +kernel⟩
theorem t_World_turned : Cond.static y_World_turned.1 ∈ ab_T := (k6 138 rfl rfl)
theorem s_World_write : ab_Stat y_World_write 3 := ⟨(k6 150 rfl rfl), (k1 10 rfl rfl), ⟨by decide, by decide⟩, by decide +kernel⟩
theorem i_World_write : Cond.instanceMethod y_World_write.1 ∈ ab_T := (k6 148 rfl rfl)
theorem v_World_write : Cond.selects "WorldEngine$World" y_World_write.1 y_World_write.1 ∈ ab_T := (k6 149 rfl rfl)
theorem s_World_carryEvents : ab_Stat y_World_carryEvents 2 := ⟨(k6 154 rfl rfl), (k1 10 rfl rfl), ⟨by decide, by decide⟩, by decide +kernel⟩
theorem i_World_carryEvents : Cond.instanceMethod y_World_carryEvents.1 ∈ ab_T := (k6 153 rfl rfl)
theorem v_World_carryEvents : Cond.selects "WorldEngine$World" y_World_carryEvents.1 y_World_carryEvents.1 ∈ ab_T := ab_s (List.mem_of_getElem? (i := 64) rfl) rfl
theorem s_World_matches : ab_Stat y_World_matches 3 := ⟨(k6 199 rfl rfl), (k1 10 rfl rfl), ⟨by decide, by decide⟩, by decide +kernel⟩
theorem i_World_matches : Cond.instanceMethod y_World_matches.1 ∈ ab_T := (k6 197 rfl rfl)
theorem v_World_matches : Cond.selects "WorldEngine$World" y_World_matches.1 y_World_matches.1 ∈ ab_T := (k6 198 rfl rfl)
theorem s_World_numberAt : ab_Stat y_World_numberAt 1 := ⟨(k6 234 rfl rfl), (k1 10 rfl rfl), ⟨by decide, by decide⟩, by decide +kernel⟩
theorem i_World_numberAt : Cond.instanceMethod y_World_numberAt.1 ∈ ab_T := (k6 232 rfl rfl)
theorem v_World_numberAt : Cond.selects "WorldEngine$World" y_World_numberAt.1 y_World_numberAt.1 ∈ ab_T := (k6 233 rfl rfl)
theorem s_World_placeOf : ab_Stat y_World_placeOf 1 := ⟨(k7 38 rfl rfl), (k1 10 rfl rfl), ⟨by decide, by decide⟩, by decide +kernel⟩
theorem i_World_placeOf : Cond.instanceMethod y_World_placeOf.1 ∈ ab_T := (k7 36 rfl rfl)
theorem v_World_placeOf : Cond.selects "WorldEngine$World" y_World_placeOf.1 y_World_placeOf.1 ∈ ab_T := (k7 37 rfl rfl)
theorem s_World_noteFailure : ab_Stat y_World_noteFailure 3 := ⟨(k7 81 rfl rfl), (k1 10 rfl rfl), ⟨by decide, by decide⟩, by decide +kernel⟩
theorem i_World_noteFailure : Cond.instanceMethod y_World_noteFailure.1 ∈ ab_T := (k7 79 rfl rfl)
theorem v_World_noteFailure : Cond.selects "WorldEngine$World" y_World_noteFailure.1 y_World_noteFailure.1 ∈ ab_T := (k7 80 rfl rfl)
theorem s_World_bear : ab_Stat y_World_bear 2 := ⟨(k7 93 rfl rfl), (k1 10 rfl rfl), ⟨by decide, by decide⟩, by decide +kernel⟩
theorem i_World_bear : Cond.instanceMethod y_World_bear.1 ∈ ab_T := (k7 91 rfl rfl)
theorem v_World_bear : Cond.selects "WorldEngine$World" y_World_bear.1 y_World_bear.1 ∈ ab_T := (k7 92 rfl rfl)
theorem s_World_occupy : ab_Stat y_World_occupy 2 := ⟨(k7 97 rfl rfl), (k1 10 rfl rfl), ⟨by decide, by decide⟩, by decide +kernel⟩
theorem i_World_occupy : Cond.instanceMethod y_World_occupy.1 ∈ ab_T := (k7 95 rfl rfl)
theorem v_World_occupy : Cond.selects "WorldEngine$World" y_World_occupy.1 y_World_occupy.1 ∈ ab_T := (k7 96 rfl rfl)
theorem s_World_remove : ab_Stat y_World_remove 1 := ⟨(k7 116 rfl rfl), (k1 10 rfl rfl), ⟨by decide, by decide⟩, by decide +kernel⟩
theorem i_World_remove : Cond.instanceMethod y_World_remove.1 ∈ ab_T := (k7 114 rfl rfl)
theorem v_World_remove : Cond.selects "WorldEngine$World" y_World_remove.1 y_World_remove.1 ∈ ab_T := (k7 115 rfl rfl)
theorem s_World_giveAt : ab_Stat y_World_giveAt 3 := ⟨(k7 121 rfl rfl), (k1 10 rfl rfl), ⟨by decide, by decide⟩, by decide +kernel⟩
theorem i_World_giveAt : Cond.instanceMethod y_World_giveAt.1 ∈ ab_T := (k7 119 rfl rfl)
theorem v_World_giveAt : Cond.selects "WorldEngine$World" y_World_giveAt.1 y_World_giveAt.1 ∈ ab_T := (k7 120 rfl rfl)
theorem s_World_takeAt : ab_Stat y_World_takeAt 2 := ⟨(k7 125 rfl rfl), (k1 10 rfl rfl), ⟨by decide, by decide⟩, by decide +kernel⟩
theorem i_World_takeAt : Cond.instanceMethod y_World_takeAt.1 ∈ ab_T := (k7 123 rfl rfl)
theorem v_World_takeAt : Cond.selects "WorldEngine$World" y_World_takeAt.1 y_World_takeAt.1 ∈ ab_T := (k7 124 rfl rfl)
theorem s_World_dropDue : ab_Stat y_World_dropDue 0 := ⟨(k7 129 rfl rfl), (k1 10 rfl rfl), ⟨by decide, by decide⟩, by decide +kernel⟩
theorem i_World_dropDue : Cond.instanceMethod y_World_dropDue.1 ∈ ab_T := (k7 127 rfl rfl)
theorem v_World_dropDue : Cond.selects "WorldEngine$World" y_World_dropDue.1 y_World_dropDue.1 ∈ ab_T := (k7 128 rfl rfl)
theorem s_World_matchAt : ab_Stat y_World_matchAt 3 := ⟨(k7 204 rfl rfl), (k1 10 rfl rfl), ⟨by decide, by decide⟩, by decide +kernel⟩
theorem i_World_matchAt : Cond.instanceMethod y_World_matchAt.1 ∈ ab_T := (k7 202 rfl rfl)
theorem v_World_matchAt : Cond.selects "WorldEngine$World" y_World_matchAt.1 y_World_matchAt.1 ∈ ab_T := (k7 203 rfl rfl)
theorem s_World_entityCount : ab_Stat y_World_entityCount 0 := ⟨(k7 230 rfl rfl), (k1 10 rfl rfl), ⟨by decide, by decide⟩, by decide +kernel⟩
theorem i_World_entityCount : Cond.instanceMethod y_World_entityCount.1 ∈ ab_T := (k7 228 rfl rfl)
theorem v_World_entityCount : Cond.selects "WorldEngine$World" y_World_entityCount.1 y_World_entityCount.1 ∈ ab_T := (k7 229 rfl rfl)
theorem s_Math_max : ab_Stat y_Math_max 2 := ⟨(k2 219 rfl rfl), (k1 17 rfl rfl), ⟨by decide, by decide⟩, by decide +kernel⟩
theorem t_Math_max : Cond.static y_Math_max.1 ∈ ab_T := (k2 218 rfl rfl)
theorem s_Math_min : ab_Stat y_Math_min 2 := ⟨(k3 155 rfl rfl), (k1 17 rfl rfl), ⟨by decide, by decide⟩, by decide +kernel⟩
theorem t_Math_min : Cond.static y_Math_min.1 ∈ ab_T := (k3 154 rfl rfl)
theorem s_Math_max2 : ab_Stat y_Math_max2 2 := ⟨(k4 28 rfl rfl), (k1 17 rfl rfl), ⟨by decide, by decide⟩, by decide +kernel⟩
theorem t_Math_max2 : Cond.static y_Math_max2.1 ∈ ab_T := (k4 27 rfl rfl)
theorem s_Math_min2 : ab_Stat y_Math_min2 2 := ⟨(k4 21 rfl rfl), (k1 17 rfl rfl), ⟨by decide, by decide⟩, by decide +kernel⟩
theorem t_Math_min2 : Cond.static y_Math_min2.1 ∈ ab_T := (k4 20 rfl rfl)
theorem s_Math_abs : ab_Stat y_Math_abs 1 := ⟨(k6 229 rfl rfl), (k1 17 rfl rfl), ⟨by decide, by decide⟩, by decide +kernel⟩
theorem t_Math_abs : Cond.static y_Math_abs.1 ∈ ab_T := (k6 228 rfl rfl)
theorem s_Math_floorDiv : ab_Stat y_Math_floorDiv 2 := ⟨(k7 70 rfl rfl), (k1 17 rfl rfl), ⟨by decide, by decide⟩, by decide +kernel⟩
theorem t_Math_floorDiv : Cond.static y_Math_floorDiv.1 ∈ ab_T := (k7 69 rfl rfl)
