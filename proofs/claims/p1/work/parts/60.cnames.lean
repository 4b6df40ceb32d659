def y_Named_init : ab_Y := (⟨"WorldEngine$Named", "<init>", "()V"⟩, prog_4_method_1_code, 1, none, [])
theorem d_Named_init_0 : decode y_Named_init.2.1 0 = .ok (.aload_n 0, 1) := by decide +kernel
theorem d_Named_init_1 : decode y_Named_init.2.1 1 = .ok (.invokespecial 1, 3) := by decide +kernel
theorem d_Named_init_4 : decode y_Named_init.2.1 4 = .ok (.aload_n 0, 1) := by decide +kernel
theorem d_Named_init_5 : decode y_Named_init.2.1 5 = .ok (.ldc 7, 2) := by decide +kernel
theorem d_Named_init_7 : decode y_Named_init.2.1 7 = .ok (.putfield 9, 3) := by decide +kernel
theorem d_Named_init_10 : decode y_Named_init.2.1 10 = .ok (.return_, 1) := by decide +kernel
def y_Named_rowOf : ab_Y := (⟨"WorldEngine$Named", "rowOf", "(I)[LWorldEngine$Named;"⟩, prog_4_method_4_code, 3, (some (FieldType.array (FieldType.object "WorldEngine$Named"))), [])
theorem d_Named_rowOf_0 : decode y_Named_rowOf.2.1 0 = .ok (.iconst 0, 1) := by decide +kernel
theorem d_Named_rowOf_1 : decode y_Named_rowOf.2.1 1 = .ok (.iload_n 0, 1) := by decide +kernel
theorem d_Named_rowOf_2 : decode y_Named_rowOf.2.1 2 = .ok (.invokestatic 25, 3) := by decide +kernel
theorem d_Named_rowOf_5 : decode y_Named_rowOf.2.1 5 = .ok (.anewarray 10, 3) := by decide +kernel
theorem d_Named_rowOf_8 : decode y_Named_rowOf.2.1 8 = .ok (.astore_n 1, 1) := by decide +kernel
theorem d_Named_rowOf_9 : decode y_Named_rowOf.2.1 9 = .ok (.iconst 0, 1) := by decide +kernel
theorem d_Named_rowOf_10 : decode y_Named_rowOf.2.1 10 = .ok (.istore_n 2, 1) := by decide +kernel
theorem d_Named_rowOf_11 : decode y_Named_rowOf.2.1 11 = .ok (.iload_n 2, 1) := by decide +kernel
theorem d_Named_rowOf_12 : decode y_Named_rowOf.2.1 12 = .ok (.aload_n 1, 1) := by decide +kernel
theorem d_Named_rowOf_13 : decode y_Named_rowOf.2.1 13 = .ok (.arraylength, 1) := by decide +kernel
theorem d_Named_rowOf_14 : decode y_Named_rowOf.2.1 14 = .ok (.if_icmp .ge 19, 3) := by decide +kernel
theorem d_Named_rowOf_17 : decode y_Named_rowOf.2.1 17 = .ok (.aload_n 1, 1) := by decide +kernel
theorem d_Named_rowOf_18 : decode y_Named_rowOf.2.1 18 = .ok (.iload_n 2, 1) := by decide +kernel
theorem d_Named_rowOf_19 : decode y_Named_rowOf.2.1 19 = .ok (.new 10, 3) := by decide +kernel
theorem d_Named_rowOf_22 : decode y_Named_rowOf.2.1 22 = .ok (.dup, 1) := by decide +kernel
theorem d_Named_rowOf_23 : decode y_Named_rowOf.2.1 23 = .ok (.invokespecial 31, 3) := by decide +kernel
theorem d_Named_rowOf_26 : decode y_Named_rowOf.2.1 26 = .ok (.aastore, 1) := by decide +kernel
theorem d_Named_rowOf_27 : decode y_Named_rowOf.2.1 27 = .ok (.iinc 2 1, 3) := by decide +kernel
theorem d_Named_rowOf_30 : decode y_Named_rowOf.2.1 30 = .ok (.goto (-19), 3) := by decide +kernel
theorem d_Named_rowOf_33 : decode y_Named_rowOf.2.1 33 = .ok (.aload_n 1, 1) := by decide +kernel
theorem d_Named_rowOf_34 : decode y_Named_rowOf.2.1 34 = .ok (.areturn, 1) := by decide +kernel
def y_Shapes_init : ab_Y := (⟨"WorldEngine$Shapes", "<init>", "(II)V"⟩, prog_9_method_1_code, 3, none, [])
theorem d_Shapes_init_0 : decode y_Shapes_init.2.1 0 = .ok (.aload_n 0, 1) := by decide +kernel
theorem d_Shapes_init_1 : decode y_Shapes_init.2.1 1 = .ok (.invokespecial 1, 3) := by decide +kernel
theorem d_Shapes_init_4 : decode y_Shapes_init.2.1 4 = .ok (.aload_n 0, 1) := by decide +kernel
theorem d_Shapes_init_5 : decode y_Shapes_init.2.1 5 = .ok (.iload_n 1, 1) := by decide +kernel
theorem d_Shapes_init_6 : decode y_Shapes_init.2.1 6 = .ok (.invokestatic 7, 3) := by decide +kernel
theorem d_Shapes_init_9 : decode y_Shapes_init.2.1 9 = .ok (.putfield 13, 3) := by decide +kernel
theorem d_Shapes_init_12 : decode y_Shapes_init.2.1 12 = .ok (.aload_n 0, 1) := by decide +kernel
theorem d_Shapes_init_13 : decode y_Shapes_init.2.1 13 = .ok (.iload_n 2, 1) := by decide +kernel
theorem d_Shapes_init_14 : decode y_Shapes_init.2.1 14 = .ok (.invokestatic 7, 3) := by decide +kernel
theorem d_Shapes_init_17 : decode y_Shapes_init.2.1 17 = .ok (.putfield 19, 3) := by decide +kernel
theorem d_Shapes_init_20 : decode y_Shapes_init.2.1 20 = .ok (.aload_n 0, 1) := by decide +kernel
theorem d_Shapes_init_21 : decode y_Shapes_init.2.1 21 = .ok (.iconst 0, 1) := by decide +kernel
theorem d_Shapes_init_22 : decode y_Shapes_init.2.1 22 = .ok (.iload_n 1, 1) := by decide +kernel
theorem d_Shapes_init_23 : decode y_Shapes_init.2.1 23 = .ok (.invokestatic 22, 3) := by decide +kernel
theorem d_Shapes_init_26 : decode y_Shapes_init.2.1 26 = .ok (.iconst 1, 1) := by decide +kernel
theorem d_Shapes_init_27 : decode y_Shapes_init.2.1 27 = .ok (.iadd, 1) := by decide +kernel
theorem d_Shapes_init_28 : decode y_Shapes_init.2.1 28 = .ok (.newarray .int, 2) := by decide +kernel
theorem d_Shapes_init_30 : decode y_Shapes_init.2.1 30 = .ok (.putfield 28, 3) := by decide +kernel
theorem d_Shapes_init_33 : decode y_Shapes_init.2.1 33 = .ok (.return_, 1) := by decide +kernel
def y_Program_init : ab_Y := (⟨"WorldEngine$Program", "<init>", "()V"⟩, prog_6_method_1_code, 1, none, [])
theorem d_Program_init_0 : decode y_Program_init.2.1 0 = .ok (.aload_n 0, 1) := by decide +kernel
theorem d_Program_init_1 : decode y_Program_init.2.1 1 = .ok (.invokespecial 3, 3) := by decide +kernel
theorem d_Program_init_4 : decode y_Program_init.2.1 4 = .ok (.aload_n 0, 1) := by decide +kernel
theorem d_Program_init_5 : decode y_Program_init.2.1 5 = .ok (.bipush 68, 2) := by decide +kernel
theorem d_Program_init_7 : decode y_Program_init.2.1 7 = .ok (.invokestatic 9, 3) := by decide +kernel
theorem d_Program_init_10 : decode y_Program_init.2.1 10 = .ok (.putfield 15, 3) := by decide +kernel
theorem d_Program_init_13 : decode y_Program_init.2.1 13 = .ok (.aload_n 0, 1) := by decide +kernel
theorem d_Program_init_14 : decode y_Program_init.2.1 14 = .ok (.new 19, 3) := by decide +kernel
theorem d_Program_init_17 : decode y_Program_init.2.1 17 = .ok (.dup, 1) := by decide +kernel
theorem d_Program_init_18 : decode y_Program_init.2.1 18 = .ok (.bipush 16, 2) := by decide +kernel
theorem d_Program_init_20 : decode y_Program_init.2.1 20 = .ok (.bipush 48, 2) := by decide +kernel
theorem d_Program_init_22 : decode y_Program_init.2.1 22 = .ok (.invokespecial 21, 3) := by decide +kernel
theorem d_Program_init_25 : decode y_Program_init.2.1 25 = .ok (.putfield 24, 3) := by decide +kernel
theorem d_Program_init_28 : decode y_Program_init.2.1 28 = .ok (.aload_n 0, 1) := by decide +kernel
theorem d_Program_init_29 : decode y_Program_init.2.1 29 = .ok (.new 19, 3) := by decide +kernel
theorem d_Program_init_32 : decode y_Program_init.2.1 32 = .ok (.dup, 1) := by decide +kernel
theorem d_Program_init_33 : decode y_Program_init.2.1 33 = .ok (.bipush 8, 2) := by decide +kernel
theorem d_Program_init_35 : decode y_Program_init.2.1 35 = .ok (.bipush 32, 2) := by decide +kernel
theorem d_Program_init_37 : decode y_Program_init.2.1 37 = .ok (.invokespecial 21, 3) := by decide +kernel
theorem d_Program_init_40 : decode y_Program_init.2.1 40 = .ok (.putfield 28, 3) := by decide +kernel
theorem d_Program_init_43 : decode y_Program_init.2.1 43 = .ok (.aload_n 0, 1) := by decide +kernel
theorem d_Program_init_44 : decode y_Program_init.2.1 44 = .ok (.bipush 16, 2) := by decide +kernel
theorem d_Program_init_46 : decode y_Program_init.2.1 46 = .ok (.newarray .int, 2) := by decide +kernel
theorem d_Program_init_48 : decode y_Program_init.2.1 48 = .ok (.putfield 31, 3) := by decide +kernel
theorem d_Program_init_51 : decode y_Program_init.2.1 51 = .ok (.aload_n 0, 1) := by decide +kernel
theorem d_Program_init_52 : decode y_Program_init.2.1 52 = .ok (.sipush 768, 3) := by decide +kernel
theorem d_Program_init_55 : decode y_Program_init.2.1 55 = .ok (.newarray .int, 2) := by decide +kernel
theorem d_Program_init_57 : decode y_Program_init.2.1 57 = .ok (.putfield 35, 3) := by decide +kernel
theorem d_Program_init_60 : decode y_Program_init.2.1 60 = .ok (.aload_n 0, 1) := by decide +kernel
theorem d_Program_init_61 : decode y_Program_init.2.1 61 = .ok (.bipush 16, 2) := by decide +kernel
theorem d_Program_init_63 : decode y_Program_init.2.1 63 = .ok (.newarray .int, 2) := by decide +kernel
theorem d_Program_init_65 : decode y_Program_init.2.1 65 = .ok (.putfield 38, 3) := by decide +kernel
theorem d_Program_init_68 : decode y_Program_init.2.1 68 = .ok (.aload_n 0, 1) := by decide +kernel
theorem d_Program_init_69 : decode y_Program_init.2.1 69 = .ok (.bipush 16, 2) := by decide +kernel
theorem d_Program_init_71 : decode y_Program_init.2.1 71 = .ok (.newarray .int, 2) := by decide +kernel
theorem d_Program_init_73 : decode y_Program_init.2.1 73 = .ok (.putfield 41, 3) := by decide +kernel
theorem d_Program_init_76 : decode y_Program_init.2.1 76 = .ok (.aload_n 0, 1) := by decide +kernel
theorem d_Program_init_77 : decode y_Program_init.2.1 77 = .ok (.bipush 16, 2) := by decide +kernel
theorem d_Program_init_79 : decode y_Program_init.2.1 79 = .ok (.newarray .int, 2) := by decide +kernel
theorem d_Program_init_81 : decode y_Program_init.2.1 81 = .ok (.putfield 44, 3) := by decide +kernel
theorem d_Program_init_84 : decode y_Program_init.2.1 84 = .ok (.aload_n 0, 1) := by decide +kernel
theorem d_Program_init_85 : decode y_Program_init.2.1 85 = .ok (.bipush 16, 2) := by decide +kernel
theorem d_Program_init_87 : decode y_Program_init.2.1 87 = .ok (.newarray .int, 2) := by decide +kernel
theorem d_Program_init_89 : decode y_Program_init.2.1 89 = .ok (.putfield 47, 3) := by decide +kernel
theorem d_Program_init_92 : decode y_Program_init.2.1 92 = .ok (.aload_n 0, 1) := by decide +kernel
theorem d_Program_init_93 : decode y_Program_init.2.1 93 = .ok (.bipush 16, 2) := by decide +kernel
theorem d_Program_init_95 : decode y_Program_init.2.1 95 = .ok (.newarray .int, 2) := by decide +kernel
theorem d_Program_init_97 : decode y_Program_init.2.1 97 = .ok (.putfield 50, 3) := by decide +kernel
theorem d_Program_init_100 : decode y_Program_init.2.1 100 = .ok (.aload_n 0, 1) := by decide +kernel
theorem d_Program_init_101 : decode y_Program_init.2.1 101 = .ok (.bipush 16, 2) := by decide +kernel
theorem d_Program_init_103 : decode y_Program_init.2.1 103 = .ok (.newarray .int, 2) := by decide +kernel
theorem d_Program_init_105 : decode y_Program_init.2.1 105 = .ok (.putfield 53, 3) := by decide +kernel
theorem d_Program_init_108 : decode y_Program_init.2.1 108 = .ok (.aload_n 0, 1) := by decide +kernel
theorem d_Program_init_109 : decode y_Program_init.2.1 109 = .ok (.bipush 16, 2) := by decide +kernel
theorem d_Program_init_111 : decode y_Program_init.2.1 111 = .ok (.newarray .int, 2) := by decide +kernel
theorem d_Program_init_113 : decode y_Program_init.2.1 113 = .ok (.putfield 56, 3) := by decide +kernel
theorem d_Program_init_116 : decode y_Program_init.2.1 116 = .ok (.aload_n 0, 1) := by decide +kernel
theorem d_Program_init_117 : decode y_Program_init.2.1 117 = .ok (.sipush 12000, 3) := by decide +kernel
theorem d_Program_init_120 : decode y_Program_init.2.1 120 = .ok (.newarray .int, 2) := by decide +kernel
theorem d_Program_init_122 : decode y_Program_init.2.1 122 = .ok (.putfield 59, 3) := by decide +kernel
theorem d_Program_init_125 : decode y_Program_init.2.1 125 = .ok (.return_, 1) := by decide +kernel
def y_Body_init : ab_Y := (⟨"WorldEngine$Body", "<init>", "(LWorldEngine$Lexer;)V"⟩, prog_2_method_1_code, 2, none, [])
theorem d_Body_init_0 : decode y_Body_init.2.1 0 = .ok (.aload_n 0, 1) := by decide +kernel
theorem d_Body_init_1 : decode y_Body_init.2.1 1 = .ok (.invokespecial 1, 3) := by decide +kernel
theorem d_Body_init_4 : decode y_Body_init.2.1 4 = .ok (.aload_n 0, 1) := by decide +kernel
theorem d_Body_init_5 : decode y_Body_init.2.1 5 = .ok (.aload_n 1, 1) := by decide +kernel
theorem d_Body_init_6 : decode y_Body_init.2.1 6 = .ok (.putfield 7, 3) := by decide +kernel
theorem d_Body_init_9 : decode y_Body_init.2.1 9 = .ok (.aload_n 0, 1) := by decide +kernel
theorem d_Body_init_10 : decode y_Body_init.2.1 10 = .ok (.bipush 21, 2) := by decide +kernel
theorem d_Body_init_12 : decode y_Body_init.2.1 12 = .ok (.newarray .int, 2) := by decide +kernel
theorem d_Body_init_14 : decode y_Body_init.2.1 14 = .ok (.putfield 13, 3) := by decide +kernel
theorem d_Body_init_17 : decode y_Body_init.2.1 17 = .ok (.return_, 1) := by decide +kernel
def y_Reader_init : ab_Y := (⟨"WorldEngine$Reader", "<init>", "(LWorldEngine$Lexer;)V"⟩, prog_7_method_1_code, 2, none, [])
theorem d_Reader_init_0 : decode y_Reader_init.2.1 0 = .ok (.aload_n 0, 1) := by decide +kernel
theorem d_Reader_init_1 : decode y_Reader_init.2.1 1 = .ok (.invokespecial 1, 3) := by decide +kernel
theorem d_Reader_init_4 : decode y_Reader_init.2.1 4 = .ok (.aload_n 0, 1) := by decide +kernel
theorem d_Reader_init_5 : decode y_Reader_init.2.1 5 = .ok (.aload_n 1, 1) := by decide +kernel
theorem d_Reader_init_6 : decode y_Reader_init.2.1 6 = .ok (.putfield 7, 3) := by decide +kernel
theorem d_Reader_init_9 : decode y_Reader_init.2.1 9 = .ok (.aload_n 0, 1) := by decide +kernel
theorem d_Reader_init_10 : decode y_Reader_init.2.1 10 = .ok (.new 13, 3) := by decide +kernel
theorem d_Reader_init_13 : decode y_Reader_init.2.1 13 = .ok (.dup, 1) := by decide +kernel
theorem d_Reader_init_14 : decode y_Reader_init.2.1 14 = .ok (.aload_n 1, 1) := by decide +kernel
theorem d_Reader_init_15 : decode y_Reader_init.2.1 15 = .ok (.invokespecial 15, 3) := by decide +kernel
theorem d_Reader_init_18 : decode y_Reader_init.2.1 18 = .ok (.putfield 18, 3) := by decide +kernel
theorem d_Reader_init_21 : decode y_Reader_init.2.1 21 = .ok (.return_, 1) := by decide +kernel
def y_Row_init : ab_Y := (⟨"WorldEngine$Row", "<init>", "()V"⟩, prog_8_method_1_code, 1, none, [])
theorem d_Row_init_0 : decode y_Row_init.2.1 0 = .ok (.aload_n 0, 1) := by decide +kernel
theorem d_Row_init_1 : decode y_Row_init.2.1 1 = .ok (.invokespecial 3, 3) := by decide +kernel
theorem d_Row_init_4 : decode y_Row_init.2.1 4 = .ok (.aload_n 0, 1) := by decide +kernel
theorem d_Row_init_5 : decode y_Row_init.2.1 5 = .ok (.sipush 704, 3) := by decide +kernel
theorem d_Row_init_8 : decode y_Row_init.2.1 8 = .ok (.newarray .int, 2) := by decide +kernel
theorem d_Row_init_10 : decode y_Row_init.2.1 10 = .ok (.putfield 11, 3) := by decide +kernel
theorem d_Row_init_13 : decode y_Row_init.2.1 13 = .ok (.aload_n 0, 1) := by decide +kernel
theorem d_Row_init_14 : decode y_Row_init.2.1 14 = .ok (.sipush 160, 3) := by decide +kernel
theorem d_Row_init_17 : decode y_Row_init.2.1 17 = .ok (.newarray .int, 2) := by decide +kernel
theorem d_Row_init_19 : decode y_Row_init.2.1 19 = .ok (.putfield 15, 3) := by decide +kernel
theorem d_Row_init_22 : decode y_Row_init.2.1 22 = .ok (.aload_n 0, 1) := by decide +kernel
theorem d_Row_init_23 : decode y_Row_init.2.1 23 = .ok (.bipush 12, 2) := by decide +kernel
theorem d_Row_init_25 : decode y_Row_init.2.1 25 = .ok (.newarray .int, 2) := by decide +kernel
theorem d_Row_init_27 : decode y_Row_init.2.1 27 = .ok (.putfield 18, 3) := by decide +kernel
theorem d_Row_init_30 : decode y_Row_init.2.1 30 = .ok (.aload_n 0, 1) := by decide +kernel
theorem d_Row_init_31 : decode y_Row_init.2.1 31 = .ok (.bipush 21, 2) := by decide +kernel
theorem d_Row_init_33 : decode y_Row_init.2.1 33 = .ok (.newarray .int, 2) := by decide +kernel
theorem d_Row_init_35 : decode y_Row_init.2.1 35 = .ok (.putfield 21, 3) := by decide +kernel
theorem d_Row_init_38 : decode y_Row_init.2.1 38 = .ok (.aload_n 0, 1) := by decide +kernel
theorem d_Row_init_39 : decode y_Row_init.2.1 39 = .ok (.bipush 21, 2) := by decide +kernel
theorem d_Row_init_41 : decode y_Row_init.2.1 41 = .ok (.newarray .int, 2) := by decide +kernel
theorem d_Row_init_43 : decode y_Row_init.2.1 43 = .ok (.putfield 24, 3) := by decide +kernel
theorem d_Row_init_46 : decode y_Row_init.2.1 46 = .ok (.aload_n 0, 1) := by decide +kernel
theorem d_Row_init_47 : decode y_Row_init.2.1 47 = .ok (.bipush 11, 2) := by decide +kernel
theorem d_Row_init_49 : decode y_Row_init.2.1 49 = .ok (.newarray .int, 2) := by decide +kernel
theorem d_Row_init_51 : decode y_Row_init.2.1 51 = .ok (.putfield 27, 3) := by decide +kernel
theorem d_Row_init_54 : decode y_Row_init.2.1 54 = .ok (.aload_n 0, 1) := by decide +kernel
theorem d_Row_init_55 : decode y_Row_init.2.1 55 = .ok (.bipush 48, 2) := by decide +kernel
theorem d_Row_init_57 : decode y_Row_init.2.1 57 = .ok (.newarray .int, 2) := by decide +kernel
theorem d_Row_init_59 : decode y_Row_init.2.1 59 = .ok (.putfield 32, 3) := by decide +kernel
theorem d_Row_init_62 : decode y_Row_init.2.1 62 = .ok (.return_, 1) := by decide +kernel
def y_Ticker_init : ab_Y := (⟨"WorldEngine$Ticker", "<init>", "()V"⟩, prog_11_method_1_code, 1, none, [])
theorem d_Ticker_init_0 : decode y_Ticker_init.2.1 0 = .ok (.aload_n 0, 1) := by decide +kernel
theorem d_Ticker_init_1 : decode y_Ticker_init.2.1 1 = .ok (.invokespecial 1, 3) := by decide +kernel
theorem d_Ticker_init_4 : decode y_Ticker_init.2.1 4 = .ok (.aload_n 0, 1) := by decide +kernel
theorem d_Ticker_init_5 : decode y_Ticker_init.2.1 5 = .ok (.new 7, 3) := by decide +kernel
theorem d_Ticker_init_8 : decode y_Ticker_init.2.1 8 = .ok (.dup, 1) := by decide +kernel
theorem d_Ticker_init_9 : decode y_Ticker_init.2.1 9 = .ok (.invokespecial 9, 3) := by decide +kernel
theorem d_Ticker_init_12 : decode y_Ticker_init.2.1 12 = .ok (.putfield 10, 3) := by decide +kernel
theorem d_Ticker_init_15 : decode y_Ticker_init.2.1 15 = .ok (.return_, 1) := by decide +kernel
def y_Store_init : ab_Y := (⟨"WorldEngine$Store", "<init>", "()V"⟩, prog_10_method_1_code, 1, none, [])
theorem d_Store_init_0 : decode y_Store_init.2.1 0 = .ok (.aload_n 0, 1) := by decide +kernel
theorem d_Store_init_1 : decode y_Store_init.2.1 1 = .ok (.invokespecial 3, 3) := by decide +kernel
theorem d_Store_init_4 : decode y_Store_init.2.1 4 = .ok (.aload_n 0, 1) := by decide +kernel
theorem d_Store_init_5 : decode y_Store_init.2.1 5 = .ok (.ldc 11, 2) := by decide +kernel
theorem d_Store_init_7 : decode y_Store_init.2.1 7 = .ok (.newarray .byte, 2) := by decide +kernel
theorem d_Store_init_9 : decode y_Store_init.2.1 9 = .ok (.putfield 12, 3) := by decide +kernel
theorem d_Store_init_12 : decode y_Store_init.2.1 12 = .ok (.return_, 1) := by decide +kernel
def y_Str_length : ab_Y := (⟨"java/lang/String", "length", "()I"⟩, prog_25_method_54_code, 1, (some FieldType.int), [])
theorem d_Str_length_0 : decode y_Str_length.2.1 0 = .ok (.aload_n 0, 1) := by decide +kernel
theorem d_Str_length_1 : decode y_Str_length.2.1 1 = .ok (.getfield 9, 3) := by decide +kernel
theorem d_Str_length_4 : decode y_Str_length.2.1 4 = .ok (.arraylength, 1) := by decide +kernel
theorem d_Str_length_5 : decode y_Str_length.2.1 5 = .ok (.aload_n 0, 1) := by decide +kernel
theorem d_Str_length_6 : decode y_Str_length.2.1 6 = .ok (.invokevirtual 335, 3) := by decide +kernel
theorem d_Str_length_9 : decode y_Str_length.2.1 9 = .ok (.ishr, 1) := by decide +kernel
theorem d_Str_length_10 : decode y_Str_length.2.1 10 = .ok (.ireturn, 1) := by decide +kernel
def y_Str_coder : ab_Y := (⟨"java/lang/String", "coder", "()B"⟩, prog_25_method_152_code, 1, (some FieldType.byte), [])
theorem d_Str_coder_0 : decode y_Str_coder.2.1 0 = .ok (.getstatic 38, 3) := by decide +kernel
theorem d_Str_coder_3 : decode y_Str_coder.2.1 3 = .ok (.ifCond .eq 10, 3) := by decide +kernel
theorem d_Str_coder_6 : decode y_Str_coder.2.1 6 = .ok (.aload_n 0, 1) := by decide +kernel
theorem d_Str_coder_7 : decode y_Str_coder.2.1 7 = .ok (.getfield 15, 3) := by decide +kernel
theorem d_Str_coder_10 : decode y_Str_coder.2.1 10 = .ok (.goto 4, 3) := by decide +kernel
theorem d_Str_coder_13 : decode y_Str_coder.2.1 13 = .ok (.iconst 1, 1) := by decide +kernel
theorem d_Str_coder_14 : decode y_Str_coder.2.1 14 = .ok (.ireturn, 1) := by decide +kernel
def y_Str_charAt : ab_Y := (⟨"java/lang/String", "charAt", "(I)C"⟩, prog_25_method_56_code, 2, (some FieldType.char), [])
theorem d_Str_charAt_0 : decode y_Str_charAt.2.1 0 = .ok (.aload_n 0, 1) := by decide +kernel
theorem d_Str_charAt_1 : decode y_Str_charAt.2.1 1 = .ok (.invokevirtual 492, 3) := by decide +kernel
theorem d_Str_charAt_4 : decode y_Str_charAt.2.1 4 = .ok (.ifCond .eq 12, 3) := by decide +kernel
theorem d_Str_charAt_7 : decode y_Str_charAt.2.1 7 = .ok (.aload_n 0, 1) := by decide +kernel
theorem d_Str_charAt_8 : decode y_Str_charAt.2.1 8 = .ok (.getfield 9, 3) := by decide +kernel
theorem d_Str_charAt_11 : decode y_Str_charAt.2.1 11 = .ok (.iload_n 1, 1) := by decide +kernel
theorem d_Str_charAt_12 : decode y_Str_charAt.2.1 12 = .ok (.invokestatic 495, 3) := by decide +kernel
theorem d_Str_charAt_15 : decode y_Str_charAt.2.1 15 = .ok (.ireturn, 1) := by decide +kernel
theorem d_Str_charAt_16 : decode y_Str_charAt.2.1 16 = .ok (.aload_n 0, 1) := by decide +kernel
theorem d_Str_charAt_17 : decode y_Str_charAt.2.1 17 = .ok (.getfield 9, 3) := by decide +kernel
theorem d_Str_charAt_20 : decode y_Str_charAt.2.1 20 = .ok (.iload_n 1, 1) := by decide +kernel
theorem d_Str_charAt_21 : decode y_Str_charAt.2.1 21 = .ok (.invokestatic 498, 3) := by decide +kernel
theorem d_Str_charAt_24 : decode y_Str_charAt.2.1 24 = .ok (.ireturn, 1) := by decide +kernel
def y_Str_isLatin1 : ab_Y := (⟨"java/lang/String", "isLatin1", "()Z"⟩, prog_25_method_154_code, 1, (some FieldType.boolean), [])
theorem d_Str_isLatin1_0 : decode y_Str_isLatin1.2.1 0 = .ok (.getstatic 38, 3) := by decide +kernel
theorem d_Str_isLatin1_3 : decode y_Str_isLatin1.2.1 3 = .ok (.ifCond .eq 14, 3) := by decide +kernel
theorem d_Str_isLatin1_6 : decode y_Str_isLatin1.2.1 6 = .ok (.aload_n 0, 1) := by decide +kernel
theorem d_Str_isLatin1_7 : decode y_Str_isLatin1.2.1 7 = .ok (.getfield 15, 3) := by decide +kernel
theorem d_Str_isLatin1_10 : decode y_Str_isLatin1.2.1 10 = .ok (.ifCond .ne 7, 3) := by decide +kernel
theorem d_Str_isLatin1_13 : decode y_Str_isLatin1.2.1 13 = .ok (.iconst 1, 1) := by decide +kernel
theorem d_Str_isLatin1_14 : decode y_Str_isLatin1.2.1 14 = .ok (.goto 4, 3) := by decide +kernel
theorem d_Str_isLatin1_17 : decode y_Str_isLatin1.2.1 17 = .ok (.iconst 0, 1) := by decide +kernel
theorem d_Str_isLatin1_18 : decode y_Str_isLatin1.2.1 18 = .ok (.ireturn, 1) := by decide +kernel
def y_SL_charAt : ab_Y := (⟨"java/lang/StringLatin1", "charAt", "([BI)C"⟩, prog_26_method_2_code, 2, (some FieldType.char), [])
theorem d_SL_charAt_0 : decode y_SL_charAt.2.1 0 = .ok (.iload_n 1, 1) := by decide +kernel
theorem d_SL_charAt_1 : decode y_SL_charAt.2.1 1 = .ok (.aload_n 0, 1) := by decide +kernel
theorem d_SL_charAt_2 : decode y_SL_charAt.2.1 2 = .ok (.arraylength, 1) := by decide +kernel
theorem d_SL_charAt_3 : decode y_SL_charAt.2.1 3 = .ok (.invokestatic 9, 3) := by decide +kernel
theorem d_SL_charAt_6 : decode y_SL_charAt.2.1 6 = .ok (.aload_n 0, 1) := by decide +kernel
theorem d_SL_charAt_7 : decode y_SL_charAt.2.1 7 = .ok (.iload_n 1, 1) := by decide +kernel
theorem d_SL_charAt_8 : decode y_SL_charAt.2.1 8 = .ok (.baload, 1) := by decide +kernel
theorem d_SL_charAt_9 : decode y_SL_charAt.2.1 9 = .ok (.sipush 255, 3) := by decide +kernel
theorem d_SL_charAt_12 : decode y_SL_charAt.2.1 12 = .ok (.iand, 1) := by decide +kernel
theorem d_SL_charAt_13 : decode y_SL_charAt.2.1 13 = .ok (.i2c, 1) := by decide +kernel
theorem d_SL_charAt_14 : decode y_SL_charAt.2.1 14 = .ok (.ireturn, 1) := by decide +kernel
def y_Str_checkIndex : ab_Y := (⟨"java/lang/String", "checkIndex", "(II)V"⟩, prog_25_method_155_code, 2, none, [])
theorem d_Str_checkIndex_0 : decode y_Str_checkIndex.2.1 0 = .ok (.iload_n 0, 1) := by decide +kernel
theorem d_Str_checkIndex_1 : decode y_Str_checkIndex.2.1 1 = .ok (.iload_n 1, 1) := by decide +kernel
theorem d_Str_checkIndex_2 : decode y_Str_checkIndex.2.1 2 = .ok (.getstatic 1053, 3) := by decide +kernel
theorem d_Str_checkIndex_5 : decode y_Str_checkIndex.2.1 5 = .ok (.invokestatic 1059, 3) := by decide +kernel
theorem d_Str_checkIndex_8 : decode y_Str_checkIndex.2.1 8 = .ok (.pop, 1) := by decide +kernel
theorem d_Str_checkIndex_9 : decode y_Str_checkIndex.2.1 9 = .ok (.return_, 1) := by decide +kernel
def y_Pre_checkIndex : ab_Y := (⟨"jdk/internal/util/Preconditions", "checkIndex", "(IILjava/util/function/BiFunction;)I"⟩, prog_32_method_11_code, 3, (some FieldType.int), [])
theorem d_Pre_checkIndex_0 : decode y_Pre_checkIndex.2.1 0 = .ok (.iload_n 0, 1) := by decide +kernel
theorem d_Pre_checkIndex_1 : decode y_Pre_checkIndex.2.1 1 = .ok (.ifCond .lt 8, 3) := by decide +kernel
theorem d_Pre_checkIndex_4 : decode y_Pre_checkIndex.2.1 4 = .ok (.iload_n 0, 1) := by decide +kernel
theorem d_Pre_checkIndex_5 : decode y_Pre_checkIndex.2.1 5 = .ok (.iload_n 1, 1) := by decide +kernel
theorem d_Pre_checkIndex_6 : decode y_Pre_checkIndex.2.1 6 = .ok (.if_icmp .lt 10, 3) := by decide +kernel
theorem d_Pre_checkIndex_9 : decode y_Pre_checkIndex.2.1 9 = .ok (.aload_n 2, 1) := by decide +kernel
theorem d_Pre_checkIndex_10 : decode y_Pre_checkIndex.2.1 10 = .ok (.iload_n 0, 1) := by decide +kernel
theorem d_Pre_checkIndex_11 : decode y_Pre_checkIndex.2.1 11 = .ok (.iload_n 1, 1) := by decide +kernel
theorem d_Pre_checkIndex_12 : decode y_Pre_checkIndex.2.1 12 = .ok (.invokestatic 95, 3) := by decide +kernel
theorem d_Pre_checkIndex_15 : decode y_Pre_checkIndex.2.1 15 = .ok (.athrow, 1) := by decide +kernel
theorem d_Pre_checkIndex_16 : decode y_Pre_checkIndex.2.1 16 = .ok (.iload_n 0, 1) := by decide +kernel
theorem d_Pre_checkIndex_17 : decode y_Pre_checkIndex.2.1 17 = .ok (.ireturn, 1) := by decide +kernel
theorem s_Named_init : ab_Stat y_Named_init 0 := ⟨(k2 225 rfl rfl), (k1 16 rfl rfl), ⟨by decide, by decide⟩, by decide +kernel⟩
theorem i_Named_init : Cond.instanceMethod y_Named_init.1 ∈ ab_T := (k2 224 rfl rfl)
theorem s_Named_rowOf : ab_Stat y_Named_rowOf 1 := ⟨(k2 216 rfl rfl), (k1 16 rfl rfl), ⟨by decide, by decide⟩, by decide +kernel⟩
theorem t_Named_rowOf : Cond.static y_Named_rowOf.1 ∈ ab_T := (k2 215 rfl rfl)
theorem s_Shapes_init : ab_Stat y_Shapes_init 2 := ⟨(k3 19 rfl rfl), (k1 18 rfl rfl), ⟨by decide, by decide⟩, by decide +kernel⟩
theorem i_Shapes_init : Cond.instanceMethod y_Shapes_init.1 ∈ ab_T := (k3 18 rfl rfl)
theorem s_Program_init : ab_Stat y_Program_init 0 := ⟨(k2 212 rfl rfl), (k1 15 rfl rfl), ⟨by decide, by decide⟩, by decide +kernel⟩
theorem i_Program_init : Cond.instanceMethod y_Program_init.1 ∈ ab_T := (k2 211 rfl rfl)
theorem s_Body_init : ab_Stat y_Body_init 1 := ⟨(k1 155 rfl rfl), (k1 8 rfl rfl), ⟨by decide, by decide⟩, by decide +kernel⟩
theorem i_Body_init : Cond.instanceMethod y_Body_init.1 ∈ ab_T := (k1 154 rfl rfl)
theorem s_Reader_init : ab_Stat y_Reader_init 1 := ⟨(k1 149 rfl rfl), (k1 7 rfl rfl), ⟨by decide, by decide⟩, by decide +kernel⟩
theorem i_Reader_init : Cond.instanceMethod y_Reader_init.1 ∈ ab_T := (k1 148 rfl rfl)
theorem s_Row_init : ab_Stat y_Row_init 0 := ⟨(k2 58 rfl rfl), (k1 13 rfl rfl), ⟨by decide, by decide⟩, by decide +kernel⟩
theorem i_Row_init : Cond.instanceMethod y_Row_init.1 ∈ ab_T := (k2 57 rfl rfl)
theorem s_Ticker_init : ab_Stat y_Ticker_init 0 := ⟨(k2 52 rfl rfl), (k1 12 rfl rfl), ⟨by decide, by decide⟩, by decide +kernel⟩
theorem i_Ticker_init : Cond.instanceMethod y_Ticker_init.1 ∈ ab_T := (k2 51 rfl rfl)
theorem s_Store_init : ab_Stat y_Store_init 0 := ⟨(k2 183 rfl rfl), (k1 14 rfl rfl), ⟨by decide, by decide⟩, by decide +kernel⟩
theorem i_Store_init : Cond.instanceMethod y_Store_init.1 ∈ ab_T := (k2 182 rfl rfl)
theorem s_Str_length : ab_Stat y_Str_length 0 := ⟨(k1 49 rfl rfl), (k1 3 rfl rfl), ⟨by decide, by decide⟩, by decide +kernel⟩
theorem i_Str_length : Cond.instanceMethod y_Str_length.1 ∈ ab_T := (k1 47 rfl rfl)
theorem v_Str_length : Cond.selects "java/lang/String" y_Str_length.1 y_Str_length.1 ∈ ab_T := (k1 48 rfl rfl)
theorem s_Str_coder : ab_Stat y_Str_coder 0 := ⟨(k1 53 rfl rfl), (k1 3 rfl rfl), ⟨by decide, by decide⟩, by decide +kernel⟩
theorem i_Str_coder : Cond.instanceMethod y_Str_coder.1 ∈ ab_T := (k1 51 rfl rfl)
theorem v_Str_coder : Cond.selects "java/lang/String" y_Str_coder.1 y_Str_coder.1 ∈ ab_T := (k1 52 rfl rfl)
theorem s_Str_charAt : ab_Stat y_Str_charAt 1 := ⟨(k1 59 rfl rfl), (k1 3 rfl rfl), ⟨by decide, by decide⟩, by decide +kernel⟩
theorem i_Str_charAt : Cond.instanceMethod y_Str_charAt.1 ∈ ab_T := (k1 57 rfl rfl)
theorem v_Str_charAt : Cond.selects "java/lang/String" y_Str_charAt.1 y_Str_charAt.1 ∈ ab_T := (k1 58 rfl rfl)
theorem s_Str_isLatin1 : ab_Stat y_Str_isLatin1 0 := ⟨(k1 63 rfl rfl), (k1 3 rfl rfl), ⟨by decide, by decide⟩, by decide +kernel⟩
theorem i_Str_isLatin1 : Cond.instanceMethod y_Str_isLatin1.1 ∈ ab_T := (k1 61 rfl rfl)
theorem v_Str_isLatin1 : Cond.selects "java/lang/String" y_Str_isLatin1.1 y_Str_isLatin1.1 ∈ ab_T := (k1 62 rfl rfl)
theorem s_SL_charAt : ab_Stat y_SL_charAt 2 := ⟨(k1 66 rfl rfl), (k1 4 rfl rfl), ⟨by decide, by decide⟩, by decide +kernel⟩
theorem t_SL_charAt : Cond.static y_SL_charAt.1 ∈ ab_T := (k1 65 rfl rfl)
theorem s_Str_checkIndex : ab_Stat y_Str_checkIndex 2 := ⟨(k1 69 rfl rfl), (k1 3 rfl rfl), ⟨by decide, by decide⟩, by decide +kernel⟩
theorem t_Str_checkIndex : Cond.static y_Str_checkIndex.1 ∈ ab_T := (k1 68 rfl rfl)
theorem s_Pre_checkIndex : ab_Stat y_Pre_checkIndex 3 := ⟨(k1 74 rfl rfl), (k1 5 rfl rfl), ⟨by decide, by decide⟩, by decide +kernel⟩
theorem t_Pre_checkIndex : Cond.static y_Pre_checkIndex.1 ∈ ab_T := (k1 73 rfl rfl)
