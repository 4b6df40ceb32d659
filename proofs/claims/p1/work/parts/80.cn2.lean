def y_Reader_readAll : ab_Y := (⟨"WorldEngine$Reader", "readAll", "(LWorldEngine$Program;)Z"⟩, prog_7_method_2_code, 4, (some FieldType.boolean), [(21, 152, 155, 72)])
theorem d_Reader_readAll_0 : decode y_Reader_readAll.2.1 0 = .ok (.aload_n 0, 1) := by decide +kernel
theorem d_Reader_readAll_1 : decode y_Reader_readAll.2.1 1 = .ok (.aload_n 1, 1) := by decide +kernel
theorem d_Reader_readAll_2 : decode y_Reader_readAll.2.1 2 = .ok (.putfield 22, 3) := by decide +kernel
theorem d_Reader_readAll_5 : decode y_Reader_readAll.2.1 5 = .ok (.aload_n 0, 1) := by decide +kernel
theorem d_Reader_readAll_6 : decode y_Reader_readAll.2.1 6 = .ok (.getfield 22, 3) := by decide +kernel
theorem d_Reader_readAll_9 : decode y_Reader_readAll.2.1 9 = .ok (.invokevirtual 26, 3) := by decide +kernel
theorem d_Reader_readAll_12 : decode y_Reader_readAll.2.1 12 = .ok (.aload_n 0, 1) := by decide +kernel
theorem d_Reader_readAll_13 : decode y_Reader_readAll.2.1 13 = .ok (.getfield 7, 3) := by decide +kernel
theorem d_Reader_readAll_16 : decode y_Reader_readAll.2.1 16 = .ok (.invokevirtual 31, 3) := by decide +kernel
theorem d_Reader_readAll_19 : decode y_Reader_readAll.2.1 19 = .ok (.iconst 1, 1) := by decide +kernel
theorem d_Reader_readAll_20 : decode y_Reader_readAll.2.1 20 = .ok (.istore_n 2, 1) := by decide +kernel
theorem d_Reader_readAll_21 : decode y_Reader_readAll.2.1 21 = .ok (.iconst 0, 1) := by decide +kernel
theorem d_Reader_readAll_22 : decode y_Reader_readAll.2.1 22 = .ok (.istore_n 3, 1) := by decide +kernel
theorem d_Reader_readAll_23 : decode y_Reader_readAll.2.1 23 = .ok (.iload_n 3, 1) := by decide +kernel
theorem d_Reader_readAll_24 : decode y_Reader_readAll.2.1 24 = .ok (.sipush 6000, 3) := by decide +kernel
theorem d_Reader_readAll_27 : decode y_Reader_readAll.2.1 27 = .ok (.if_icmp .gt 125, 3) := by decide +kernel
theorem d_Reader_readAll_30 : decode y_Reader_readAll.2.1 30 = .ok (.aload_n 0, 1) := by decide +kernel
theorem d_Reader_readAll_31 : decode y_Reader_readAll.2.1 31 = .ok (.getfield 7, 3) := by decide +kernel
theorem d_Reader_readAll_34 : decode y_Reader_readAll.2.1 34 = .ok (.getfield 36, 3) := by decide +kernel
theorem d_Reader_readAll_37 : decode y_Reader_readAll.2.1 37 = .ok (.ifCond .eq 115, 3) := by decide +kernel
theorem d_Reader_readAll_40 : decode y_Reader_readAll.2.1 40 = .ok (.aload_n 0, 1) := by decide +kernel
theorem d_Reader_readAll_41 : decode y_Reader_readAll.2.1 41 = .ok (.getfield 7, 3) := by decide +kernel
theorem d_Reader_readAll_44 : decode y_Reader_readAll.2.1 44 = .ok (.getfield 36, 3) := by decide +kernel
theorem d_Reader_readAll_47 : decode y_Reader_readAll.2.1 47 = .ok (.tableswitch 84 40 43 #[29, 36, 43, 50], 29) := by decide +kernel
theorem d_Reader_readAll_76 : decode y_Reader_readAll.2.1 76 = .ok (.aload_n 0, 1) := by decide +kernel
theorem d_Reader_readAll_77 : decode y_Reader_readAll.2.1 77 = .ok (.invokevirtual 40, 3) := by decide +kernel
theorem d_Reader_readAll_80 : decode y_Reader_readAll.2.1 80 = .ok (.goto 66, 3) := by decide +kernel
theorem d_Reader_readAll_83 : decode y_Reader_readAll.2.1 83 = .ok (.aload_n 0, 1) := by decide +kernel
theorem d_Reader_readAll_84 : decode y_Reader_readAll.2.1 84 = .ok (.invokevirtual 43, 3) := by decide +kernel
theorem d_Reader_readAll_87 : decode y_Reader_readAll.2.1 87 = .ok (.goto 59, 3) := by decide +kernel
theorem d_Reader_readAll_90 : decode y_Reader_readAll.2.1 90 = .ok (.aload_n 0, 1) := by decide +kernel
theorem d_Reader_readAll_91 : decode y_Reader_readAll.2.1 91 = .ok (.invokevirtual 46, 3) := by decide +kernel
theorem d_Reader_readAll_94 : decode y_Reader_readAll.2.1 94 = .ok (.goto 52, 3) := by decide +kernel
theorem d_Reader_readAll_97 : decode y_Reader_readAll.2.1 97 = .ok (.aload_n 0, 1) := by decide +kernel
theorem d_Reader_readAll_98 : decode y_Reader_readAll.2.1 98 = .ok (.invokevirtual 49, 3) := by decide +kernel
theorem d_Reader_readAll_101 : decode y_Reader_readAll.2.1 101 = .ok (.aload_n 0, 1) := by decide +kernel
theorem d_Reader_readAll_102 : decode y_Reader_readAll.2.1 102 = .ok (.getfield 18, 3) := by decide +kernel
theorem d_Reader_readAll_105 : decode y_Reader_readAll.2.1 105 = .ok (.aload_n 0, 1) := by decide +kernel
theorem d_Reader_readAll_106 : decode y_Reader_readAll.2.1 106 = .ok (.getfield 22, 3) := by decide +kernel
theorem d_Reader_readAll_109 : decode y_Reader_readAll.2.1 109 = .ok (.invokevirtual 52, 3) := by decide +kernel
theorem d_Reader_readAll_112 : decode y_Reader_readAll.2.1 112 = .ok (.aload_n 0, 1) := by decide +kernel
theorem d_Reader_readAll_113 : decode y_Reader_readAll.2.1 113 = .ok (.getfield 18, 3) := by decide +kernel
theorem d_Reader_readAll_116 : decode y_Reader_readAll.2.1 116 = .ok (.invokevirtual 56, 3) := by decide +kernel
theorem d_Reader_readAll_119 : decode y_Reader_readAll.2.1 119 = .ok (.aload_n 0, 1) := by decide +kernel
theorem d_Reader_readAll_120 : decode y_Reader_readAll.2.1 120 = .ok (.getfield 22, 3) := by decide +kernel
theorem d_Reader_readAll_123 : decode y_Reader_readAll.2.1 123 = .ok (.iconst 0, 1) := by decide +kernel
theorem d_Reader_readAll_124 : decode y_Reader_readAll.2.1 124 = .ok (.invokevirtual 61, 3) := by decide +kernel
theorem d_Reader_readAll_127 : decode y_Reader_readAll.2.1 127 = .ok (.pop, 1) := by decide +kernel
theorem d_Reader_readAll_128 : decode y_Reader_readAll.2.1 128 = .ok (.goto 18, 3) := by decide +kernel
theorem d_Reader_readAll_131 : decode y_Reader_readAll.2.1 131 = .ok (.aload_n 0, 1) := by decide +kernel
theorem d_Reader_readAll_132 : decode y_Reader_readAll.2.1 132 = .ok (.getfield 7, 3) := by decide +kernel
theorem d_Reader_readAll_135 : decode y_Reader_readAll.2.1 135 = .ok (.iconst 1, 1) := by decide +kernel
theorem d_Reader_readAll_136 : decode y_Reader_readAll.2.1 136 = .ok (.aload_n 0, 1) := by decide +kernel
theorem d_Reader_readAll_137 : decode y_Reader_readAll.2.1 137 = .ok (.getfield 7, 3) := by decide +kernel
theorem d_Reader_readAll_140 : decode y_Reader_readAll.2.1 140 = .ok (.getfield 65, 3) := by decide +kernel
theorem d_Reader_readAll_143 : decode y_Reader_readAll.2.1 143 = .ok (.invokevirtual 68, 3) := by decide +kernel
theorem d_Reader_readAll_146 : decode y_Reader_readAll.2.1 146 = .ok (.iinc 3 1, 3) := by decide +kernel
theorem d_Reader_readAll_149 : decode y_Reader_readAll.2.1 149 = .ok (.goto (-126), 3) := by decide +kernel
theorem d_Reader_readAll_152 : decode y_Reader_readAll.2.1 152 = .ok (.goto 6, 3) := by decide +kernel
theorem d_Reader_readAll_155 : decode y_Reader_readAll.2.1 155 = .ok (.astore_n 3, 1) := by decide +kernel
theorem d_Reader_readAll_156 : decode y_Reader_readAll.2.1 156 = .ok (.iconst 0, 1) := by decide +kernel
theorem d_Reader_readAll_157 : decode y_Reader_readAll.2.1 157 = .ok (.istore_n 2, 1) := by decide +kernel
theorem d_Reader_readAll_158 : decode y_Reader_readAll.2.1 158 = .ok (.aload_n 0, 1) := by decide +kernel
theorem d_Reader_readAll_159 : decode y_Reader_readAll.2.1 159 = .ok (.getfield 7, 3) := by decide +kernel
theorem d_Reader_readAll_162 : decode y_Reader_readAll.2.1 162 = .ok (.iconst 0, 1) := by decide +kernel
theorem d_Reader_readAll_163 : decode y_Reader_readAll.2.1 163 = .ok (.putfield 74, 3) := by decide +kernel
theorem d_Reader_readAll_166 : decode y_Reader_readAll.2.1 166 = .ok (.iload_n 2, 1) := by decide +kernel
theorem d_Reader_readAll_167 : decode y_Reader_readAll.2.1 167 = .ok (.ireturn, 1) := by decide +kernel
def y_Program_clear : ab_Y := (⟨"WorldEngine$Program", "clear", "()V"⟩, prog_6_method_2_code, 1, none, [])
theorem d_Program_clear_0 : decode y_Program_clear.2.1 0 = .ok (.aload_n 0, 1) := by decide +kernel
theorem d_Program_clear_1 : decode y_Program_clear.2.1 1 = .ok (.iconst 0, 1) := by decide +kernel
theorem d_Program_clear_2 : decode y_Program_clear.2.1 2 = .ok (.putfield 62, 3) := by decide +kernel
theorem d_Program_clear_5 : decode y_Program_clear.2.1 5 = .ok (.aload_n 0, 1) := by decide +kernel
theorem d_Program_clear_6 : decode y_Program_clear.2.1 6 = .ok (.getfield 24, 3) := by decide +kernel
theorem d_Program_clear_9 : decode y_Program_clear.2.1 9 = .ok (.invokevirtual 66, 3) := by decide +kernel
theorem d_Program_clear_12 : decode y_Program_clear.2.1 12 = .ok (.aload_n 0, 1) := by decide +kernel
theorem d_Program_clear_13 : decode y_Program_clear.2.1 13 = .ok (.getfield 28, 3) := by decide +kernel
theorem d_Program_clear_16 : decode y_Program_clear.2.1 16 = .ok (.invokevirtual 66, 3) := by decide +kernel
theorem d_Program_clear_19 : decode y_Program_clear.2.1 19 = .ok (.aload_n 0, 1) := by decide +kernel
theorem d_Program_clear_20 : decode y_Program_clear.2.1 20 = .ok (.iconst 0, 1) := by decide +kernel
theorem d_Program_clear_21 : decode y_Program_clear.2.1 21 = .ok (.putfield 69, 3) := by decide +kernel
theorem d_Program_clear_24 : decode y_Program_clear.2.1 24 = .ok (.aload_n 0, 1) := by decide +kernel
theorem d_Program_clear_25 : decode y_Program_clear.2.1 25 = .ok (.iconst 0, 1) := by decide +kernel
theorem d_Program_clear_26 : decode y_Program_clear.2.1 26 = .ok (.putfield 72, 3) := by decide +kernel
theorem d_Program_clear_29 : decode y_Program_clear.2.1 29 = .ok (.aload_n 0, 1) := by decide +kernel
theorem d_Program_clear_30 : decode y_Program_clear.2.1 30 = .ok (.iconst 0, 1) := by decide +kernel
theorem d_Program_clear_31 : decode y_Program_clear.2.1 31 = .ok (.putfield 75, 3) := by decide +kernel
theorem d_Program_clear_34 : decode y_Program_clear.2.1 34 = .ok (.aload_n 0, 1) := by decide +kernel
theorem d_Program_clear_35 : decode y_Program_clear.2.1 35 = .ok (.iconst 0, 1) := by decide +kernel
theorem d_Program_clear_36 : decode y_Program_clear.2.1 36 = .ok (.putfield 78, 3) := by decide +kernel
theorem d_Program_clear_39 : decode y_Program_clear.2.1 39 = .ok (.return_, 1) := by decide +kernel
def y_Shapes_clear : ab_Y := (⟨"WorldEngine$Shapes", "clear", "()V"⟩, prog_9_method_2_code, 1, none, [])
theorem d_Shapes_clear_0 : decode y_Shapes_clear.2.1 0 = .ok (.aload_n 0, 1) := by decide +kernel
theorem d_Shapes_clear_1 : decode y_Shapes_clear.2.1 1 = .ok (.iconst 0, 1) := by decide +kernel
theorem d_Shapes_clear_2 : decode y_Shapes_clear.2.1 2 = .ok (.putfield 32, 3) := by decide +kernel
theorem d_Shapes_clear_5 : decode y_Shapes_clear.2.1 5 = .ok (.aload_n 0, 1) := by decide +kernel
theorem d_Shapes_clear_6 : decode y_Shapes_clear.2.1 6 = .ok (.getfield 28, 3) := by decide +kernel
theorem d_Shapes_clear_9 : decode y_Shapes_clear.2.1 9 = .ok (.iconst 0, 1) := by decide +kernel
theorem d_Shapes_clear_10 : decode y_Shapes_clear.2.1 10 = .ok (.iconst 0, 1) := by decide +kernel
theorem d_Shapes_clear_11 : decode y_Shapes_clear.2.1 11 = .ok (.iastore, 1) := by decide +kernel
theorem d_Shapes_clear_12 : decode y_Shapes_clear.2.1 12 = .ok (.return_, 1) := by decide +kernel
def y_Shapes_total : ab_Y := (⟨"WorldEngine$Shapes", "total", "()I"⟩, prog_9_method_5_code, 1, (some FieldType.int), [])
theorem d_Shapes_total_0 : decode y_Shapes_total.2.1 0 = .ok (.aload_n 0, 1) := by decide +kernel
theorem d_Shapes_total_1 : decode y_Shapes_total.2.1 1 = .ok (.getfield 28, 3) := by decide +kernel
theorem d_Shapes_total_4 : decode y_Shapes_total.2.1 4 = .ok (.aload_n 0, 1) := by decide +kernel
theorem d_Shapes_total_5 : decode y_Shapes_total.2.1 5 = .ok (.getfield 32, 3) := by decide +kernel
theorem d_Shapes_total_8 : decode y_Shapes_total.2.1 8 = .ok (.iaload, 1) := by decide +kernel
theorem d_Shapes_total_9 : decode y_Shapes_total.2.1 9 = .ok (.ireturn, 1) := by decide +kernel
def y_Shapes_sizeOf : ab_Y := (⟨"WorldEngine$Shapes", "sizeOf", "(I)I"⟩, prog_9_method_6_code, 2, (some FieldType.int), [])
theorem d_Shapes_sizeOf_0 : decode y_Shapes_sizeOf.2.1 0 = .ok (.iload_n 1, 1) := by decide +kernel
theorem d_Shapes_sizeOf_1 : decode y_Shapes_sizeOf.2.1 1 = .ok (.ifCond .lt 11, 3) := by decide +kernel
theorem d_Shapes_sizeOf_4 : decode y_Shapes_sizeOf.2.1 4 = .ok (.iload_n 1, 1) := by decide +kernel
theorem d_Shapes_sizeOf_5 : decode y_Shapes_sizeOf.2.1 5 = .ok (.aload_n 0, 1) := by decide +kernel
theorem d_Shapes_sizeOf_6 : decode y_Shapes_sizeOf.2.1 6 = .ok (.getfield 32, 3) := by decide +kernel
theorem d_Shapes_sizeOf_9 : decode y_Shapes_sizeOf.2.1 9 = .ok (.if_icmp .lt 7, 3) := by decide +kernel
theorem d_Shapes_sizeOf_12 : decode y_Shapes_sizeOf.2.1 12 = .ok (.iconst 0, 1) := by decide +kernel
theorem d_Shapes_sizeOf_13 : decode y_Shapes_sizeOf.2.1 13 = .ok (.goto 18, 3) := by decide +kernel
theorem d_Shapes_sizeOf_16 : decode y_Shapes_sizeOf.2.1 16 = .ok (.aload_n 0, 1) := by decide +kernel
theorem d_Shapes_sizeOf_17 : decode y_Shapes_sizeOf.2.1 17 = .ok (.getfield 28, 3) := by decide +kernel
theorem d_Shapes_sizeOf_20 : decode y_Shapes_sizeOf.2.1 20 = .ok (.iload_n 1, 1) := by decide +kernel
theorem d_Shapes_sizeOf_21 : decode y_Shapes_sizeOf.2.1 21 = .ok (.iconst 1, 1) := by decide +kernel
theorem d_Shapes_sizeOf_22 : decode y_Shapes_sizeOf.2.1 22 = .ok (.iadd, 1) := by decide +kernel
theorem d_Shapes_sizeOf_23 : decode y_Shapes_sizeOf.2.1 23 = .ok (.iaload, 1) := by decide +kernel
theorem d_Shapes_sizeOf_24 : decode y_Shapes_sizeOf.2.1 24 = .ok (.aload_n 0, 1) := by decide +kernel
theorem d_Shapes_sizeOf_25 : decode y_Shapes_sizeOf.2.1 25 = .ok (.getfield 28, 3) := by decide +kernel
theorem d_Shapes_sizeOf_28 : decode y_Shapes_sizeOf.2.1 28 = .ok (.iload_n 1, 1) := by decide +kernel
theorem d_Shapes_sizeOf_29 : decode y_Shapes_sizeOf.2.1 29 = .ok (.iaload, 1) := by decide +kernel
theorem d_Shapes_sizeOf_30 : decode y_Shapes_sizeOf.2.1 30 = .ok (.isub, 1) := by decide +kernel
theorem d_Shapes_sizeOf_31 : decode y_Shapes_sizeOf.2.1 31 = .ok (.ireturn, 1) := by decide +kernel
def y_Store_write : ab_Y := (⟨"WorldEngine$Store", "write", "(LWorldEngine$Program;LWorldEngine$World;Z)I"⟩, prog_10_method_2_code, 5, (some FieldType.int), [])
theorem d_Store_write_0 : decode y_Store_write.2.1 0 = .ok (.aload_n 0, 1) := by decide +kernel
theorem d_Store_write_1 : decode y_Store_write.2.1 1 = .ok (.iload_n 3, 1) := by decide +kernel
theorem d_Store_write_2 : decode y_Store_write.2.1 2 = .ok (.putfield 16, 3) := by decide +kernel
theorem d_Store_write_5 : decode y_Store_write.2.1 5 = .ok (.aload_n 0, 1) := by decide +kernel
theorem d_Store_write_6 : decode y_Store_write.2.1 6 = .ok (.iconst 0, 1) := by decide +kernel
theorem d_Store_write_7 : decode y_Store_write.2.1 7 = .ok (.putfield 20, 3) := by decide +kernel
theorem d_Store_write_10 : decode y_Store_write.2.1 10 = .ok (.aload_n 0, 1) := by decide +kernel
theorem d_Store_write_11 : decode y_Store_write.2.1 11 = .ok (.iload_n 3, 1) := by decide +kernel
theorem d_Store_write_12 : decode y_Store_write.2.1 12 = .ok (.ifCond .eq 7, 3) := by decide +kernel
theorem d_Store_write_15 : decode y_Store_write.2.1 15 = .ok (.iconst 0, 1) := by decide +kernel
theorem d_Store_write_16 : decode y_Store_write.2.1 16 = .ok (.goto 7, 3) := by decide +kernel
theorem d_Store_write_19 : decode y_Store_write.2.1 19 = .ok (.aload_n 0, 1) := by decide +kernel
theorem d_Store_write_20 : decode y_Store_write.2.1 20 = .ok (.getfield 24, 3) := by decide +kernel
theorem d_Store_write_23 : decode y_Store_write.2.1 23 = .ok (.putfield 24, 3) := by decide +kernel
theorem d_Store_write_26 : decode y_Store_write.2.1 26 = .ok (.aload_n 0, 1) := by decide +kernel
theorem d_Store_write_27 : decode y_Store_write.2.1 27 = .ok (.bipush 87, 2) := by decide +kernel
theorem d_Store_write_29 : decode y_Store_write.2.1 29 = .ok (.invokevirtual 27, 3) := by decide +kernel
theorem d_Store_write_32 : decode y_Store_write.2.1 32 = .ok (.aload_n 0, 1) := by decide +kernel
theorem d_Store_write_33 : decode y_Store_write.2.1 33 = .ok (.bipush 69, 2) := by decide +kernel
theorem d_Store_write_35 : decode y_Store_write.2.1 35 = .ok (.invokevirtual 27, 3) := by decide +kernel
theorem d_Store_write_38 : decode y_Store_write.2.1 38 = .ok (.aload_n 0, 1) := by decide +kernel
theorem d_Store_write_39 : decode y_Store_write.2.1 39 = .ok (.aload_n 1, 1) := by decide +kernel
theorem d_Store_write_40 : decode y_Store_write.2.1 40 = .ok (.getfield 31, 3) := by decide +kernel
theorem d_Store_write_43 : decode y_Store_write.2.1 43 = .ok (.invokevirtual 37, 3) := by decide +kernel
theorem d_Store_write_46 : decode y_Store_write.2.1 46 = .ok (.aload_n 0, 1) := by decide +kernel
theorem d_Store_write_47 : decode y_Store_write.2.1 47 = .ok (.aload_n 1, 1) := by decide +kernel
theorem d_Store_write_48 : decode y_Store_write.2.1 48 = .ok (.getfield 41, 3) := by decide +kernel
theorem d_Store_write_51 : decode y_Store_write.2.1 51 = .ok (.invokevirtual 37, 3) := by decide +kernel
theorem d_Store_write_54 : decode y_Store_write.2.1 54 = .ok (.aload_n 0, 1) := by decide +kernel
theorem d_Store_write_55 : decode y_Store_write.2.1 55 = .ok (.aload_n 2, 1) := by decide +kernel
theorem d_Store_write_56 : decode y_Store_write.2.1 56 = .ok (.getfield 44, 3) := by decide +kernel
theorem d_Store_write_59 : decode y_Store_write.2.1 59 = .ok (.invokevirtual 49, 3) := by decide +kernel
theorem d_Store_write_62 : decode y_Store_write.2.1 62 = .ok (.aload_n 0, 1) := by decide +kernel
theorem d_Store_write_63 : decode y_Store_write.2.1 63 = .ok (.aload_n 2, 1) := by decide +kernel
theorem d_Store_write_64 : decode y_Store_write.2.1 64 = .ok (.getfield 52, 3) := by decide +kernel
theorem d_Store_write_67 : decode y_Store_write.2.1 67 = .ok (.invokevirtual 49, 3) := by decide +kernel
theorem d_Store_write_70 : decode y_Store_write.2.1 70 = .ok (.aload_n 0, 1) := by decide +kernel
theorem d_Store_write_71 : decode y_Store_write.2.1 71 = .ok (.aload_n 2, 1) := by decide +kernel
theorem d_Store_write_72 : decode y_Store_write.2.1 72 = .ok (.getfield 55, 3) := by decide +kernel
theorem d_Store_write_75 : decode y_Store_write.2.1 75 = .ok (.invokevirtual 49, 3) := by decide +kernel
theorem d_Store_write_78 : decode y_Store_write.2.1 78 = .ok (.aload_n 0, 1) := by decide +kernel
theorem d_Store_write_79 : decode y_Store_write.2.1 79 = .ok (.aload_n 2, 1) := by decide +kernel
theorem d_Store_write_80 : decode y_Store_write.2.1 80 = .ok (.getfield 58, 3) := by decide +kernel
theorem d_Store_write_83 : decode y_Store_write.2.1 83 = .ok (.invokevirtual 49, 3) := by decide +kernel
theorem d_Store_write_86 : decode y_Store_write.2.1 86 = .ok (.iconst 0, 1) := by decide +kernel
theorem d_Store_write_87 : decode y_Store_write.2.1 87 = .ok (.istore 4, 2) := by decide +kernel
theorem d_Store_write_89 : decode y_Store_write.2.1 89 = .ok (.iload 4, 2) := by decide +kernel
theorem d_Store_write_91 : decode y_Store_write.2.1 91 = .ok (.sipush 256, 3) := by decide +kernel
theorem d_Store_write_94 : decode y_Store_write.2.1 94 = .ok (.if_icmp .ge 60, 3) := by decide +kernel
theorem d_Store_write_97 : decode y_Store_write.2.1 97 = .ok (.aload_n 0, 1) := by decide +kernel
theorem d_Store_write_98 : decode y_Store_write.2.1 98 = .ok (.aload_n 2, 1) := by decide +kernel
theorem d_Store_write_99 : decode y_Store_write.2.1 99 = .ok (.getfield 61, 3) := by decide +kernel
theorem d_Store_write_102 : decode y_Store_write.2.1 102 = .ok (.iload 4, 2) := by decide +kernel
theorem d_Store_write_104 : decode y_Store_write.2.1 104 = .ok (.iaload, 1) := by decide +kernel
theorem d_Store_write_105 : decode y_Store_write.2.1 105 = .ok (.invokevirtual 49, 3) := by decide +kernel
theorem d_Store_write_108 : decode y_Store_write.2.1 108 = .ok (.aload_n 0, 1) := by decide +kernel
theorem d_Store_write_109 : decode y_Store_write.2.1 109 = .ok (.aload_n 2, 1) := by decide +kernel
theorem d_Store_write_110 : decode y_Store_write.2.1 110 = .ok (.getfield 65, 3) := by decide +kernel
theorem d_Store_write_113 : decode y_Store_write.2.1 113 = .ok (.iload 4, 2) := by decide +kernel
theorem d_Store_write_115 : decode y_Store_write.2.1 115 = .ok (.iaload, 1) := by decide +kernel
theorem d_Store_write_116 : decode y_Store_write.2.1 116 = .ok (.ifCond .lt 7, 3) := by decide +kernel
theorem d_Store_write_119 : decode y_Store_write.2.1 119 = .ok (.iconst 1, 1) := by decide +kernel
theorem d_Store_write_120 : decode y_Store_write.2.1 120 = .ok (.goto 4, 3) := by decide +kernel
theorem d_Store_write_123 : decode y_Store_write.2.1 123 = .ok (.iconst 0, 1) := by decide +kernel
theorem d_Store_write_124 : decode y_Store_write.2.1 124 = .ok (.invokevirtual 27, 3) := by decide +kernel
theorem d_Store_write_127 : decode y_Store_write.2.1 127 = .ok (.aload_n 2, 1) := by decide +kernel
theorem d_Store_write_128 : decode y_Store_write.2.1 128 = .ok (.getfield 65, 3) := by decide +kernel
theorem d_Store_write_131 : decode y_Store_write.2.1 131 = .ok (.iload 4, 2) := by decide +kernel
theorem d_Store_write_133 : decode y_Store_write.2.1 133 = .ok (.iaload, 1) := by decide +kernel
theorem d_Store_write_134 : decode y_Store_write.2.1 134 = .ok (.ifCond .lt 14, 3) := by decide +kernel
theorem d_Store_write_137 : decode y_Store_write.2.1 137 = .ok (.aload_n 0, 1) := by decide +kernel
theorem d_Store_write_138 : decode y_Store_write.2.1 138 = .ok (.aload_n 1, 1) := by decide +kernel
theorem d_Store_write_139 : decode y_Store_write.2.1 139 = .ok (.getfield 31, 3) := by decide +kernel
theorem d_Store_write_142 : decode y_Store_write.2.1 142 = .ok (.aload_n 2, 1) := by decide +kernel
theorem d_Store_write_143 : decode y_Store_write.2.1 143 = .ok (.iload 4, 2) := by decide +kernel
theorem d_Store_write_145 : decode y_Store_write.2.1 145 = .ok (.invokevirtual 68, 3) := by decide +kernel
theorem d_Store_write_148 : decode y_Store_write.2.1 148 = .ok (.iinc 4 1, 3) := by decide +kernel
theorem d_Store_write_151 : decode y_Store_write.2.1 151 = .ok (.goto (-62), 3) := by decide +kernel
theorem d_Store_write_154 : decode y_Store_write.2.1 154 = .ok (.aload_n 0, 1) := by decide +kernel
theorem d_Store_write_155 : decode y_Store_write.2.1 155 = .ok (.aload_n 1, 1) := by decide +kernel
theorem d_Store_write_156 : decode y_Store_write.2.1 156 = .ok (.getfield 41, 3) := by decide +kernel
theorem d_Store_write_159 : decode y_Store_write.2.1 159 = .ok (.aload_n 2, 1) := by decide +kernel
theorem d_Store_write_160 : decode y_Store_write.2.1 160 = .ok (.invokevirtual 72, 3) := by decide +kernel
theorem d_Store_write_163 : decode y_Store_write.2.1 163 = .ok (.aload_n 0, 1) := by decide +kernel
theorem d_Store_write_164 : decode y_Store_write.2.1 164 = .ok (.getfield 20, 3) := by decide +kernel
theorem d_Store_write_167 : decode y_Store_write.2.1 167 = .ok (.ireturn, 1) := by decide +kernel
def y_Store_writeByte : ab_Y := (⟨"WorldEngine$Store", "writeByte", "(I)V"⟩, prog_10_method_3_code, 2, none, [])
theorem d_Store_writeByte_0 : decode y_Store_writeByte.2.1 0 = .ok (.aload_n 0, 1) := by decide +kernel
theorem d_Store_writeByte_1 : decode y_Store_writeByte.2.1 1 = .ok (.bipush 31, 2) := by decide +kernel
theorem d_Store_writeByte_3 : decode y_Store_writeByte.2.1 3 = .ok (.aload_n 0, 1) := by decide +kernel
theorem d_Store_writeByte_4 : decode y_Store_writeByte.2.1 4 = .ok (.getfield 20, 3) := by decide +kernel
theorem d_Store_writeByte_7 : decode y_Store_writeByte.2.1 7 = .ok (.imul, 1) := by decide +kernel
theorem d_Store_writeByte_8 : decode y_Store_writeByte.2.1 8 = .ok (.iload_n 1, 1) := by decide +kernel
theorem d_Store_writeByte_9 : decode y_Store_writeByte.2.1 9 = .ok (.sipush 255, 3) := by decide +kernel
theorem d_Store_writeByte_12 : decode y_Store_writeByte.2.1 12 = .ok (.iand, 1) := by decide +kernel
theorem d_Store_writeByte_13 : decode y_Store_writeByte.2.1 13 = .ok (.iadd, 1) := by decide +kernel
theorem d_Store_writeByte_14 : decode y_Store_writeByte.2.1 14 = .ok (.putfield 20, 3) := by decide +kernel
theorem d_Store_writeByte_17 : decode y_Store_writeByte.2.1 17 = .ok (.aload_n 0, 1) := by decide +kernel
theorem d_Store_writeByte_18 : decode y_Store_writeByte.2.1 18 = .ok (.getfield 16, 3) := by decide +kernel
theorem d_Store_writeByte_21 : decode y_Store_writeByte.2.1 21 = .ok (.ifCond .eq 33, 3) := by decide +kernel
theorem d_Store_writeByte_24 : decode y_Store_writeByte.2.1 24 = .ok (.aload_n 0, 1) := by decide +kernel
theorem d_Store_writeByte_25 : decode y_Store_writeByte.2.1 25 = .ok (.getfield 24, 3) := by decide +kernel
theorem d_Store_writeByte_28 : decode y_Store_writeByte.2.1 28 = .ok (.ldc 11, 2) := by decide +kernel
theorem d_Store_writeByte_30 : decode y_Store_writeByte.2.1 30 = .ok (.if_icmp .ge 24, 3) := by decide +kernel
theorem d_Store_writeByte_33 : decode y_Store_writeByte.2.1 33 = .ok (.aload_n 0, 1) := by decide +kernel
theorem d_Store_writeByte_34 : decode y_Store_writeByte.2.1 34 = .ok (.getfield 12, 3) := by decide +kernel
theorem d_Store_writeByte_37 : decode y_Store_writeByte.2.1 37 = .ok (.aload_n 0, 1) := by decide +kernel
theorem d_Store_writeByte_38 : decode y_Store_writeByte.2.1 38 = .ok (.getfield 24, 3) := by decide +kernel
theorem d_Store_writeByte_41 : decode y_Store_writeByte.2.1 41 = .ok (.iload_n 1, 1) := by decide +kernel
theorem d_Store_writeByte_42 : decode y_Store_writeByte.2.1 42 = .ok (.i2b, 1) := by decide +kernel
theorem d_Store_writeByte_43 : decode y_Store_writeByte.2.1 43 = .ok (.bastore, 1) := by decide +kernel
theorem d_Store_writeByte_44 : decode y_Store_writeByte.2.1 44 = .ok (.aload_n 0, 1) := by decide +kernel
theorem d_Store_writeByte_45 : decode y_Store_writeByte.2.1 45 = .ok (.dup, 1) := by decide +kernel
theorem d_Store_writeByte_46 : decode y_Store_writeByte.2.1 46 = .ok (.getfield 24, 3) := by decide +kernel
theorem d_Store_writeByte_49 : decode y_Store_writeByte.2.1 49 = .ok (.iconst 1, 1) := by decide +kernel
theorem d_Store_writeByte_50 : decode y_Store_writeByte.2.1 50 = .ok (.iadd, 1) := by decide +kernel
theorem d_Store_writeByte_51 : decode y_Store_writeByte.2.1 51 = .ok (.putfield 24, 3) := by decide +kernel
theorem d_Store_writeByte_54 : decode y_Store_writeByte.2.1 54 = .ok (.return_, 1) := by decide +kernel
def y_Store_writeInt : ab_Y := (⟨"WorldEngine$Store", "writeInt", "(I)V"⟩, prog_10_method_4_code, 3, none, [])
theorem d_Store_writeInt_0 : decode y_Store_writeInt.2.1 0 = .ok (.bipush 24, 2) := by decide +kernel
theorem d_Store_writeInt_2 : decode y_Store_writeInt.2.1 2 = .ok (.istore_n 2, 1) := by decide +kernel
theorem d_Store_writeInt_3 : decode y_Store_writeInt.2.1 3 = .ok (.iload_n 2, 1) := by decide +kernel
theorem d_Store_writeInt_4 : decode y_Store_writeInt.2.1 4 = .ok (.ifCond .lt 16, 3) := by decide +kernel
theorem d_Store_writeInt_7 : decode y_Store_writeInt.2.1 7 = .ok (.aload_n 0, 1) := by decide +kernel
theorem d_Store_writeInt_8 : decode y_Store_writeInt.2.1 8 = .ok (.iload_n 1, 1) := by decide +kernel
theorem d_Store_writeInt_9 : decode y_Store_writeInt.2.1 9 = .ok (.iload_n 2, 1) := by decide +kernel
theorem d_Store_writeInt_10 : decode y_Store_writeInt.2.1 10 = .ok (.ishr, 1) := by decide +kernel
theorem d_Store_writeInt_11 : decode y_Store_writeInt.2.1 11 = .ok (.invokevirtual 27, 3) := by decide +kernel
theorem d_Store_writeInt_14 : decode y_Store_writeInt.2.1 14 = .ok (.iinc 2 (-8), 3) := by decide +kernel
theorem d_Store_writeInt_17 : decode y_Store_writeInt.2.1 17 = .ok (.goto (-14), 3) := by decide +kernel
theorem d_Store_writeInt_20 : decode y_Store_writeInt.2.1 20 = .ok (.return_, 1) := by decide +kernel
def y_Store_writeShapes : ab_Y := (⟨"WorldEngine$Store", "writeShapes", "(LWorldEngine$Shapes;)V"⟩, prog_10_method_5_code, 4, none, [])
theorem d_Store_writeShapes_0 : decode y_Store_writeShapes.2.1 0 = .ok (.aload_n 0, 1) := by decide +kernel
theorem d_Store_writeShapes_1 : decode y_Store_writeShapes.2.1 1 = .ok (.aload_n 1, 1) := by decide +kernel
theorem d_Store_writeShapes_2 : decode y_Store_writeShapes.2.1 2 = .ok (.getfield 76, 3) := by decide +kernel
theorem d_Store_writeShapes_5 : decode y_Store_writeShapes.2.1 5 = .ok (.invokevirtual 27, 3) := by decide +kernel
theorem d_Store_writeShapes_8 : decode y_Store_writeShapes.2.1 8 = .ok (.iconst 0, 1) := by decide +kernel
theorem d_Store_writeShapes_9 : decode y_Store_writeShapes.2.1 9 = .ok (.istore_n 2, 1) := by decide +kernel
theorem d_Store_writeShapes_10 : decode y_Store_writeShapes.2.1 10 = .ok (.iload_n 2, 1) := by decide +kernel
theorem d_Store_writeShapes_11 : decode y_Store_writeShapes.2.1 11 = .ok (.aload_n 1, 1) := by decide +kernel
theorem d_Store_writeShapes_12 : decode y_Store_writeShapes.2.1 12 = .ok (.getfield 76, 3) := by decide +kernel
theorem d_Store_writeShapes_15 : decode y_Store_writeShapes.2.1 15 = .ok (.if_icmp .ge 56, 3) := by decide +kernel
theorem d_Store_writeShapes_18 : decode y_Store_writeShapes.2.1 18 = .ok (.aload_n 0, 1) := by decide +kernel
theorem d_Store_writeShapes_19 : decode y_Store_writeShapes.2.1 19 = .ok (.aload_n 1, 1) := by decide +kernel
theorem d_Store_writeShapes_20 : decode y_Store_writeShapes.2.1 20 = .ok (.iload_n 2, 1) := by decide +kernel
theorem d_Store_writeShapes_21 : decode y_Store_writeShapes.2.1 21 = .ok (.invokevirtual 81, 3) := by decide +kernel
theorem d_Store_writeShapes_24 : decode y_Store_writeShapes.2.1 24 = .ok (.invokevirtual 27, 3) := by decide +kernel
theorem d_Store_writeShapes_27 : decode y_Store_writeShapes.2.1 27 = .ok (.aload_n 1, 1) := by decide +kernel
theorem d_Store_writeShapes_28 : decode y_Store_writeShapes.2.1 28 = .ok (.getfield 85, 3) := by decide +kernel
theorem d_Store_writeShapes_31 : decode y_Store_writeShapes.2.1 31 = .ok (.iload_n 2, 1) := by decide +kernel
theorem d_Store_writeShapes_32 : decode y_Store_writeShapes.2.1 32 = .ok (.iaload, 1) := by decide +kernel
theorem d_Store_writeShapes_33 : decode y_Store_writeShapes.2.1 33 = .ok (.istore_n 3, 1) := by decide +kernel
theorem d_Store_writeShapes_34 : decode y_Store_writeShapes.2.1 34 = .ok (.iload_n 3, 1) := by decide +kernel
theorem d_Store_writeShapes_35 : decode y_Store_writeShapes.2.1 35 = .ok (.aload_n 1, 1) := by decide +kernel
theorem d_Store_writeShapes_36 : decode y_Store_writeShapes.2.1 36 = .ok (.getfield 85, 3) := by decide +kernel
theorem d_Store_writeShapes_39 : decode y_Store_writeShapes.2.1 39 = .ok (.iload_n 2, 1) := by decide +kernel
theorem d_Store_writeShapes_40 : decode y_Store_writeShapes.2.1 40 = .ok (.iconst 1, 1) := by decide +kernel
theorem d_Store_writeShapes_41 : decode y_Store_writeShapes.2.1 41 = .ok (.iadd, 1) := by decide +kernel
theorem d_Store_writeShapes_42 : decode y_Store_writeShapes.2.1 42 = .ok (.iaload, 1) := by decide +kernel
theorem d_Store_writeShapes_43 : decode y_Store_writeShapes.2.1 43 = .ok (.if_icmp .ge 22, 3) := by decide +kernel
theorem d_Store_writeShapes_46 : decode y_Store_writeShapes.2.1 46 = .ok (.aload_n 0, 1) := by decide +kernel
theorem d_Store_writeShapes_47 : decode y_Store_writeShapes.2.1 47 = .ok (.aload_n 1, 1) := by decide +kernel
theorem d_Store_writeShapes_48 : decode y_Store_writeShapes.2.1 48 = .ok (.getfield 88, 3) := by decide +kernel
theorem d_Store_writeShapes_51 : decode y_Store_writeShapes.2.1 51 = .ok (.iload_n 3, 1) := by decide +kernel
theorem d_Store_writeShapes_52 : decode y_Store_writeShapes.2.1 52 = .ok (.aaload, 1) := by decide +kernel
theorem d_Store_writeShapes_53 : decode y_Store_writeShapes.2.1 53 = .ok (.getfield 92, 3) := by decide +kernel
theorem d_Store_writeShapes_56 : decode y_Store_writeShapes.2.1 56 = .ok (.invokevirtual 27, 3) := by decide +kernel
theorem d_Store_writeShapes_59 : decode y_Store_writeShapes.2.1 59 = .ok (.iinc 3 1, 3) := by decide +kernel
theorem d_Store_writeShapes_62 : decode y_Store_writeShapes.2.1 62 = .ok (.goto (-28), 3) := by decide +kernel
theorem d_Store_writeShapes_65 : decode y_Store_writeShapes.2.1 65 = .ok (.iinc 2 1, 3) := by decide +kernel
theorem d_Store_writeShapes_68 : decode y_Store_writeShapes.2.1 68 = .ok (.goto (-58), 3) := by decide +kernel
theorem d_Store_writeShapes_71 : decode y_Store_writeShapes.2.1 71 = .ok (.return_, 1) := by decide +kernel
def y_Store_writeEvents : ab_Y := (⟨"WorldEngine$Store", "writeEvents", "(LWorldEngine$Shapes;LWorldEngine$World;)V"⟩, prog_10_method_7_code, 7, none, [])
theorem d_Store_writeEvents_0 : decode y_Store_writeEvents.2.1 0 = .ok (.aload_n 0, 1) := by decide +kernel
theorem d_Store_writeEvents_1 : decode y_Store_writeEvents.2.1 1 = .ok (.aload_n 2, 1) := by decide +kernel
theorem d_Store_writeEvents_2 : decode y_Store_writeEvents.2.1 2 = .ok (.getfield 105, 3) := by decide +kernel
theorem d_Store_writeEvents_5 : decode y_Store_writeEvents.2.1 5 = .ok (.bipush 8, 2) := by decide +kernel
theorem d_Store_writeEvents_7 : decode y_Store_writeEvents.2.1 7 = .ok (.ishr, 1) := by decide +kernel
theorem d_Store_writeEvents_8 : decode y_Store_writeEvents.2.1 8 = .ok (.invokevirtual 27, 3) := by decide +kernel
theorem d_Store_writeEvents_11 : decode y_Store_writeEvents.2.1 11 = .ok (.aload_n 0, 1) := by decide +kernel
theorem d_Store_writeEvents_12 : decode y_Store_writeEvents.2.1 12 = .ok (.aload_n 2, 1) := by decide +kernel
theorem d_Store_writeEvents_13 : decode y_Store_writeEvents.2.1 13 = .ok (.getfield 105, 3) := by decide +kernel
theorem d_Store_writeEvents_16 : decode y_Store_writeEvents.2.1 16 = .ok (.invokevirtual 27, 3) := by decide +kernel
theorem d_Store_writeEvents_19 : decode y_Store_writeEvents.2.1 19 = .ok (.iconst 0, 1) := by decide +kernel
theorem d_Store_writeEvents_20 : decode y_Store_writeEvents.2.1 20 = .ok (.istore_n 3, 1) := by decide +kernel
theorem d_Store_writeEvents_21 : decode y_Store_writeEvents.2.1 21 = .ok (.iload_n 3, 1) := by decide +kernel
theorem d_Store_writeEvents_22 : decode y_Store_writeEvents.2.1 22 = .ok (.aload_n 2, 1) := by decide +kernel
theorem d_Store_writeEvents_23 : decode y_Store_writeEvents.2.1 23 = .ok (.getfield 105, 3) := by decide +kernel
theorem d_Store_writeEvents_26 : decode y_Store_writeEvents.2.1 26 = .ok (.if_icmp .ge 71, 3) := by decide +kernel
theorem d_Store_writeEvents_29 : decode y_Store_writeEvents.2.1 29 = .ok (.iload_n 3, 1) := by decide +kernel
theorem d_Store_writeEvents_30 : decode y_Store_writeEvents.2.1 30 = .ok (.bipush 7, 2) := by decide +kernel
theorem d_Store_writeEvents_32 : decode y_Store_writeEvents.2.1 32 = .ok (.imul, 1) := by decide +kernel
theorem d_Store_writeEvents_33 : decode y_Store_writeEvents.2.1 33 = .ok (.istore 4, 2) := by decide +kernel
theorem d_Store_writeEvents_35 : decode y_Store_writeEvents.2.1 35 = .ok (.aload_n 0, 1) := by decide +kernel
theorem d_Store_writeEvents_36 : decode y_Store_writeEvents.2.1 36 = .ok (.aload_n 2, 1) := by decide +kernel
theorem d_Store_writeEvents_37 : decode y_Store_writeEvents.2.1 37 = .ok (.getfield 108, 3) := by decide +kernel
theorem d_Store_writeEvents_40 : decode y_Store_writeEvents.2.1 40 = .ok (.iload 4, 2) := by decide +kernel
theorem d_Store_writeEvents_42 : decode y_Store_writeEvents.2.1 42 = .ok (.iaload, 1) := by decide +kernel
theorem d_Store_writeEvents_43 : decode y_Store_writeEvents.2.1 43 = .ok (.invokevirtual 27, 3) := by decide +kernel
theorem d_Store_writeEvents_46 : decode y_Store_writeEvents.2.1 46 = .ok (.iconst 2, 1) := by decide +kernel
theorem d_Store_writeEvents_47 : decode y_Store_writeEvents.2.1 47 = .ok (.aload_n 1, 1) := by decide +kernel
theorem d_Store_writeEvents_48 : decode y_Store_writeEvents.2.1 48 = .ok (.aload_n 2, 1) := by decide +kernel
theorem d_Store_writeEvents_49 : decode y_Store_writeEvents.2.1 49 = .ok (.getfield 108, 3) := by decide +kernel
theorem d_Store_writeEvents_52 : decode y_Store_writeEvents.2.1 52 = .ok (.iload 4, 2) := by decide +kernel
theorem d_Store_writeEvents_54 : decode y_Store_writeEvents.2.1 54 = .ok (.iaload, 1) := by decide +kernel
theorem d_Store_writeEvents_55 : decode y_Store_writeEvents.2.1 55 = .ok (.invokevirtual 81, 3) := by decide +kernel
theorem d_Store_writeEvents_58 : decode y_Store_writeEvents.2.1 58 = .ok (.iadd, 1) := by decide +kernel
theorem d_Store_writeEvents_59 : decode y_Store_writeEvents.2.1 59 = .ok (.istore 5, 2) := by decide +kernel
theorem d_Store_writeEvents_61 : decode y_Store_writeEvents.2.1 61 = .ok (.iconst 1, 1) := by decide +kernel
theorem d_Store_writeEvents_62 : decode y_Store_writeEvents.2.1 62 = .ok (.istore 6, 2) := by decide +kernel
theorem d_Store_writeEvents_64 : decode y_Store_writeEvents.2.1 64 = .ok (.iload 6, 2) := by decide +kernel
theorem d_Store_writeEvents_66 : decode y_Store_writeEvents.2.1 66 = .ok (.iload 5, 2) := by decide +kernel
theorem d_Store_writeEvents_68 : decode y_Store_writeEvents.2.1 68 = .ok (.if_icmp .gt 23, 3) := by decide +kernel
theorem d_Store_writeEvents_71 : decode y_Store_writeEvents.2.1 71 = .ok (.aload_n 0, 1) := by decide +kernel
theorem d_Store_writeEvents_72 : decode y_Store_writeEvents.2.1 72 = .ok (.aload_n 2, 1) := by decide +kernel
theorem d_Store_writeEvents_73 : decode y_Store_writeEvents.2.1 73 = .ok (.getfield 108, 3) := by decide +kernel
theorem d_Store_writeEvents_76 : decode y_Store_writeEvents.2.1 76 = .ok (.iload 4, 2) := by decide +kernel
theorem d_Store_writeEvents_78 : decode y_Store_writeEvents.2.1 78 = .ok (.iload 6, 2) := by decide +kernel
theorem d_Store_writeEvents_80 : decode y_Store_writeEvents.2.1 80 = .ok (.iadd, 1) := by decide +kernel
theorem d_Store_writeEvents_81 : decode y_Store_writeEvents.2.1 81 = .ok (.iaload, 1) := by decide +kernel
theorem d_Store_writeEvents_82 : decode y_Store_writeEvents.2.1 82 = .ok (.invokevirtual 49, 3) := by decide +kernel
theorem d_Store_writeEvents_85 : decode y_Store_writeEvents.2.1 85 = .ok (.iinc 6 1, 3) := by decide +kernel
theorem d_Store_writeEvents_88 : decode y_Store_writeEvents.2.1 88 = .ok (.goto (-24), 3) := by decide +kernel
theorem d_Store_writeEvents_91 : decode y_Store_writeEvents.2.1 91 = .ok (.iinc 3 1, 3) := by decide +kernel
theorem d_Store_writeEvents_94 : decode y_Store_writeEvents.2.1 94 = .ok (.goto (-73), 3) := by decide +kernel
theorem d_Store_writeEvents_97 : decode y_Store_writeEvents.2.1 97 = .ok (.return_, 1) := by decide +kernel
def y_Integer_bitCount : ab_Y := (⟨"java/lang/Integer", "bitCount", "(I)I"⟩, prog_22_method_49_code, 1, (some FieldType.int), [])
theorem d_Integer_bitCount_0 : decode y_Integer_bitCount.2.1 0 = .ok (.iload_n 0, 1) := by decide +kernel
theorem d_Integer_bitCount_1 : decode y_Integer_bitCount.2.1 1 = .ok (.iload_n 0, 1) := by decide +kernel
theorem d_Integer_bitCount_2 : decode y_Integer_bitCount.2.1 2 = .ok (.iconst 1, 1) := by decide +kernel
theorem d_Integer_bitCount_3 : decode y_Integer_bitCount.2.1 3 = .ok (.iushr, 1) := by decide +kernel
theorem d_Integer_bitCount_4 : decode y_Integer_bitCount.2.1 4 = .ok (.ldc_w 265, 3) := by decide +kernel
theorem d_Integer_bitCount_7 : decode y_Integer_bitCount.2.1 7 = .ok (.iand, 1) := by decide +kernel
theorem d_Integer_bitCount_8 : decode y_Integer_bitCount.2.1 8 = .ok (.isub, 1) := by decide +kernel
theorem d_Integer_bitCount_9 : decode y_Integer_bitCount.2.1 9 = .ok (.istore_n 0, 1) := by decide +kernel
theorem d_Integer_bitCount_10 : decode y_Integer_bitCount.2.1 10 = .ok (.iload_n 0, 1) := by decide +kernel
theorem d_Integer_bitCount_11 : decode y_Integer_bitCount.2.1 11 = .ok (.ldc_w 266, 3) := by decide +kernel
theorem d_Integer_bitCount_14 : decode y_Integer_bitCount.2.1 14 = .ok (.iand, 1) := by decide +kernel
theorem d_Integer_bitCount_15 : decode y_Integer_bitCount.2.1 15 = .ok (.iload_n 0, 1) := by decide +kernel
theorem d_Integer_bitCount_16 : decode y_Integer_bitCount.2.1 16 = .ok (.iconst 2, 1) := by decide +kernel
theorem d_Integer_bitCount_17 : decode y_Integer_bitCount.2.1 17 = .ok (.iushr, 1) := by decide +kernel
theorem d_Integer_bitCount_18 : decode y_Integer_bitCount.2.1 18 = .ok (.ldc_w 266, 3) := by decide +kernel
theorem d_Integer_bitCount_21 : decode y_Integer_bitCount.2.1 21 = .ok (.iand, 1) := by decide +kernel
theorem d_Integer_bitCount_22 : decode y_Integer_bitCount.2.1 22 = .ok (.iadd, 1) := by decide +kernel
theorem d_Integer_bitCount_23 : decode y_Integer_bitCount.2.1 23 = .ok (.istore_n 0, 1) := by decide +kernel
theorem d_Integer_bitCount_24 : decode y_Integer_bitCount.2.1 24 = .ok (.iload_n 0, 1) := by decide +kernel
theorem d_Integer_bitCount_25 : decode y_Integer_bitCount.2.1 25 = .ok (.iload_n 0, 1) := by decide +kernel
theorem d_Integer_bitCount_26 : decode y_Integer_bitCount.2.1 26 = .ok (.iconst 4, 1) := by decide +kernel
theorem d_Integer_bitCount_27 : decode y_Integer_bitCount.2.1 27 = .ok (.iushr, 1) := by decide +kernel
theorem d_Integer_bitCount_28 : decode y_Integer_bitCount.2.1 28 = .ok (.iadd, 1) := by decide +kernel
theorem d_Integer_bitCount_29 : decode y_Integer_bitCount.2.1 29 = .ok (.ldc_w 267, 3) := by decide +kernel
theorem d_Integer_bitCount_32 : decode y_Integer_bitCount.2.1 32 = .ok (.iand, 1) := by decide +kernel
theorem d_Integer_bitCount_33 : decode y_Integer_bitCount.2.1 33 = .ok (.istore_n 0, 1) := by decide +kernel
theorem d_Integer_bitCount_34 : decode y_Integer_bitCount.2.1 34 = .ok (.iload_n 0, 1) := by decide +kernel
theorem d_Integer_bitCount_35 : decode y_Integer_bitCount.2.1 35 = .ok (.iload_n 0, 1) := by decide +kernel
theorem d_Integer_bitCount_36 : decode y_Integer_bitCount.2.1 36 = .ok (.bipush 8, 2) := by decide +kernel
theorem d_Integer_bitCount_38 : decode y_Integer_bitCount.2.1 38 = .ok (.iushr, 1) := by decide +kernel
theorem d_Integer_bitCount_39 : decode y_Integer_bitCount.2.1 39 = .ok (.iadd, 1) := by decide +kernel
theorem d_Integer_bitCount_40 : decode y_Integer_bitCount.2.1 40 = .ok (.istore_n 0, 1) := by decide +kernel
theorem d_Integer_bitCount_41 : decode y_Integer_bitCount.2.1 41 = .ok (.iload_n 0, 1) := by decide +kernel
theorem d_Integer_bitCount_42 : decode y_Integer_bitCount.2.1 42 = .ok (.iload_n 0, 1) := by decide +kernel
theorem d_Integer_bitCount_43 : decode y_Integer_bitCount.2.1 43 = .ok (.bipush 16, 2) := by decide +kernel
theorem d_Integer_bitCount_45 : decode y_Integer_bitCount.2.1 45 = .ok (.iushr, 1) := by decide +kernel
theorem d_Integer_bitCount_46 : decode y_Integer_bitCount.2.1 46 = .ok (.iadd, 1) := by decide +kernel
theorem d_Integer_bitCount_47 : decode y_Integer_bitCount.2.1 47 = .ok (.istore_n 0, 1) := by decide +kernel
theorem d_Integer_bitCount_48 : decode y_Integer_bitCount.2.1 48 = .ok (.iload_n 0, 1) := by decide +kernel
theorem d_Integer_bitCount_49 : decode y_Integer_bitCount.2.1 49 = .ok (.bipush 63, 2) := by decide +kernel
theorem d_Integer_bitCount_51 : decode y_Integer_bitCount.2.1 51 = .ok (.iand, 1) := by decide +kernel
theorem d_Integer_bitCount_52 : decode y_Integer_bitCount.2.1 52 = .ok (.ireturn, 1) := by decide +kernel
theorem s_Reader_readAll : ab_Stat y_Reader_readAll 1 := ⟨(k3 208 rfl rfl), (k1 7 rfl rfl), ⟨by decide, by decide⟩, by decide +kernel⟩
theorem i_Reader_readAll : Cond.instanceMethod y_Reader_readAll.1 ∈ ab_T := (k3 206 rfl rfl)
theorem v_Reader_readAll : Cond.selects "WorldEngine$Reader" y_Reader_readAll.1 y_Reader_readAll.1 ∈ ab_T := (k3 207 rfl rfl)
theorem s_Program_clear : ab_Stat y_Program_clear 0 := ⟨(k3 213 rfl rfl), (k1 15 rfl rfl), ⟨by decide, by decide⟩, by decide +kernel⟩
theorem i_Program_clear : Cond.instanceMethod y_Program_clear.1 ∈ ab_T := (k3 211 rfl rfl)
theorem v_Program_clear : Cond.selects "WorldEngine$Program" y_Program_clear.1 y_Program_clear.1 ∈ ab_T := (k3 212 rfl rfl)
theorem s_Shapes_clear : ab_Stat y_Shapes_clear 0 := ⟨(k3 217 rfl rfl), (k1 18 rfl rfl), ⟨by decide, by decide⟩, by decide +kernel⟩
theorem i_Shapes_clear : Cond.instanceMethod y_Shapes_clear.1 ∈ ab_T := (k3 215 rfl rfl)
theorem v_Shapes_clear : Cond.selects "WorldEngine$Shapes" y_Shapes_clear.1 y_Shapes_clear.1 ∈ ab_T := (k3 216 rfl rfl)
theorem s_Shapes_total : ab_Stat y_Shapes_total 0 := ⟨(k5 41 rfl rfl), (k1 18 rfl rfl), ⟨by decide, by decide⟩, by decide +kernel⟩
theorem i_Shapes_total : Cond.instanceMethod y_Shapes_total.1 ∈ ab_T := (k5 39 rfl rfl)
theorem v_Shapes_total : Cond.selects "WorldEngine$Shapes" y_Shapes_total.1 y_Shapes_total.1 ∈ ab_T := (k5 40 rfl rfl)
theorem s_Shapes_sizeOf : ab_Stat y_Shapes_sizeOf 1 := ⟨(k5 37 rfl rfl), (k1 18 rfl rfl), ⟨by decide, by decide⟩, by decide +kernel⟩
theorem i_Shapes_sizeOf : Cond.instanceMethod y_Shapes_sizeOf.1 ∈ ab_T := (k5 35 rfl rfl)
theorem v_Shapes_sizeOf : Cond.selects "WorldEngine$Shapes" y_Shapes_sizeOf.1 y_Shapes_sizeOf.1 ∈ ab_T := (k5 36 rfl rfl)
theorem s_Store_write : ab_Stat y_Store_write 3 := ⟨(k7 239 rfl rfl), (k1 14 rfl rfl), ⟨by decide, by decide⟩, by decide +kernel⟩
theorem i_Store_write : Cond.instanceMethod y_Store_write.1 ∈ ab_T := (k7 237 rfl rfl)
theorem v_Store_write : Cond.selects "WorldEngine$Store" y_Store_write.1 y_Store_write.1 ∈ ab_T := (k7 238 rfl rfl)
theorem s_Store_writeByte : ab_Stat y_Store_writeByte 1 := ⟨(k8 3 rfl rfl), (k1 14 rfl rfl), ⟨by decide, by decide⟩, by decide +kernel⟩
theorem i_Store_writeByte : Cond.instanceMethod y_Store_writeByte.1 ∈ ab_T := (k8 2 rfl rfl)
theorem v_Store_writeByte : Cond.selects "WorldEngine$Store" y_Store_writeByte.1 y_Store_writeByte.1 ∈ ab_T := ab_s (List.mem_of_getElem? (i := 93) rfl) rfl
theorem s_Store_writeInt : ab_Stat y_Store_writeInt 1 := ⟨(k8 12 rfl rfl), (k1 14 rfl rfl), ⟨by decide, by decide⟩, by decide +kernel⟩
theorem i_Store_writeInt : Cond.instanceMethod y_Store_writeInt.1 ∈ ab_T := (k8 11 rfl rfl)
theorem v_Store_writeInt : Cond.selects "WorldEngine$Store" y_Store_writeInt.1 y_Store_writeInt.1 ∈ ab_T := ab_s (List.mem_of_getElem? (i := 95) rfl) rfl
theorem s_Store_writeShapes : ab_Stat y_Store_writeShapes 1 := ⟨(k8 7 rfl rfl), (k1 14 rfl rfl), ⟨by decide, by decide⟩, by decide +kernel⟩
theorem i_Store_writeShapes : Cond.instanceMethod y_Store_writeShapes.1 ∈ ab_T := (k8 6 rfl rfl)
theorem v_Store_writeShapes : Cond.selects "WorldEngine$Store" y_Store_writeShapes.1 y_Store_writeShapes.1 ∈ ab_T := ab_s (List.mem_of_getElem? (i := 94) rfl) rfl
theorem s_Store_writeEvents : ab_Stat y_Store_writeEvents 2 := ⟨(k8 22 rfl rfl), (k1 14 rfl rfl), ⟨by decide, by decide⟩, by decide +kernel⟩
theorem i_Store_writeEvents : Cond.instanceMethod y_Store_writeEvents.1 ∈ ab_T := (k8 21 rfl rfl)
theorem v_Store_writeEvents : Cond.selects "WorldEngine$Store" y_Store_writeEvents.1 y_Store_writeEvents.1 ∈ ab_T := ab_s (List.mem_of_getElem? (i := 97) rfl) rfl
theorem s_Integer_bitCount : ab_Stat y_Integer_bitCount 1 := ⟨(k5 69 rfl rfl), (k1 28 rfl rfl), ⟨by decide, by decide⟩, by decide +kernel⟩
theorem t_Integer_bitCount : Cond.static y_Integer_bitCount.1 ∈ ab_T := (k5 68 rfl rfl)
