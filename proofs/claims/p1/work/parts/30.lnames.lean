def y_Lexer_init : ab_Y := (⟨"WorldEngine$Lexer", "<init>", "()V"⟩, prog_3_method_1_code, 3, none, [])
theorem d_Lexer_init_0 : decode y_Lexer_init.2.1 0 = .ok (.aload_n 0, 1) := by decide +kernel
theorem d_Lexer_init_1 : decode y_Lexer_init.2.1 1 = .ok (.invokespecial 1, 3) := by decide +kernel
theorem d_Lexer_init_4 : decode y_Lexer_init.2.1 4 = .ok (.aload_n 0, 1) := by decide +kernel
theorem d_Lexer_init_5 : decode y_Lexer_init.2.1 5 = .ok (.sipush 6000, 3) := by decide +kernel
theorem d_Lexer_init_8 : decode y_Lexer_init.2.1 8 = .ok (.newarray .byte, 2) := by decide +kernel
theorem d_Lexer_init_10 : decode y_Lexer_init.2.1 10 = .ok (.putfield 9, 3) := by decide +kernel
theorem d_Lexer_init_13 : decode y_Lexer_init.2.1 13 = .ok (.aload_n 0, 1) := by decide +kernel
theorem d_Lexer_init_14 : decode y_Lexer_init.2.1 14 = .ok (.sipush 6001, 3) := by decide +kernel
theorem d_Lexer_init_17 : decode y_Lexer_init.2.1 17 = .ok (.newarray .int, 2) := by decide +kernel
theorem d_Lexer_init_19 : decode y_Lexer_init.2.1 19 = .ok (.putfield 13, 3) := by decide +kernel
theorem d_Lexer_init_22 : decode y_Lexer_init.2.1 22 = .ok (.aload_n 0, 1) := by decide +kernel
theorem d_Lexer_init_23 : decode y_Lexer_init.2.1 23 = .ok (.sipush 6001, 3) := by decide +kernel
theorem d_Lexer_init_26 : decode y_Lexer_init.2.1 26 = .ok (.newarray .int, 2) := by decide +kernel
theorem d_Lexer_init_28 : decode y_Lexer_init.2.1 28 = .ok (.putfield 17, 3) := by decide +kernel
theorem d_Lexer_init_31 : decode y_Lexer_init.2.1 31 = .ok (.aload_n 0, 1) := by decide +kernel
theorem d_Lexer_init_32 : decode y_Lexer_init.2.1 32 = .ok (.sipush 6001, 3) := by decide +kernel
theorem d_Lexer_init_35 : decode y_Lexer_init.2.1 35 = .ok (.newarray .int, 2) := by decide +kernel
theorem d_Lexer_init_37 : decode y_Lexer_init.2.1 37 = .ok (.putfield 20, 3) := by decide +kernel
theorem d_Lexer_init_40 : decode y_Lexer_init.2.1 40 = .ok (.aload_n 0, 1) := by decide +kernel
theorem d_Lexer_init_41 : decode y_Lexer_init.2.1 41 = .ok (.sipush 6001, 3) := by decide +kernel
theorem d_Lexer_init_44 : decode y_Lexer_init.2.1 44 = .ok (.newarray .boolean, 2) := by decide +kernel
theorem d_Lexer_init_46 : decode y_Lexer_init.2.1 46 = .ok (.putfield 23, 3) := by decide +kernel
theorem d_Lexer_init_49 : decode y_Lexer_init.2.1 49 = .ok (.aload_n 0, 1) := by decide +kernel
theorem d_Lexer_init_50 : decode y_Lexer_init.2.1 50 = .ok (.bipush 42, 2) := by decide +kernel
theorem d_Lexer_init_52 : decode y_Lexer_init.2.1 52 = .ok (.newarray .int, 2) := by decide +kernel
theorem d_Lexer_init_54 : decode y_Lexer_init.2.1 54 = .ok (.putfield 27, 3) := by decide +kernel
theorem d_Lexer_init_57 : decode y_Lexer_init.2.1 57 = .ok (.iconst 0, 1) := by decide +kernel
theorem d_Lexer_init_58 : decode y_Lexer_init.2.1 58 = .ok (.istore_n 1, 1) := by decide +kernel
theorem d_Lexer_init_59 : decode y_Lexer_init.2.1 59 = .ok (.iconst 0, 1) := by decide +kernel
theorem d_Lexer_init_60 : decode y_Lexer_init.2.1 60 = .ok (.istore_n 2, 1) := by decide +kernel
theorem d_Lexer_init_61 : decode y_Lexer_init.2.1 61 = .ok (.iload_n 2, 1) := by decide +kernel
theorem d_Lexer_init_62 : decode y_Lexer_init.2.1 62 = .ok (.ldc 30, 2) := by decide +kernel
theorem d_Lexer_init_64 : decode y_Lexer_init.2.1 64 = .ok (.invokevirtual 32, 3) := by decide +kernel
theorem d_Lexer_init_67 : decode y_Lexer_init.2.1 67 = .ok (.if_icmp .ge 38, 3) := by decide +kernel
theorem d_Lexer_init_70 : decode y_Lexer_init.2.1 70 = .ok (.ldc 30, 2) := by decide +kernel
theorem d_Lexer_init_72 : decode y_Lexer_init.2.1 72 = .ok (.iload_n 2, 1) := by decide +kernel
theorem d_Lexer_init_73 : decode y_Lexer_init.2.1 73 = .ok (.invokevirtual 38, 3) := by decide +kernel
theorem d_Lexer_init_76 : decode y_Lexer_init.2.1 76 = .ok (.bipush 32, 2) := by decide +kernel
theorem d_Lexer_init_78 : decode y_Lexer_init.2.1 78 = .ok (.if_icmp .ne 21, 3) := by decide +kernel
theorem d_Lexer_init_81 : decode y_Lexer_init.2.1 81 = .ok (.iload_n 1, 1) := by decide +kernel
theorem d_Lexer_init_82 : decode y_Lexer_init.2.1 82 = .ok (.bipush 41, 2) := by decide +kernel
theorem d_Lexer_init_84 : decode y_Lexer_init.2.1 84 = .ok (.if_icmp .ge 15, 3) := by decide +kernel
theorem d_Lexer_init_87 : decode y_Lexer_init.2.1 87 = .ok (.iinc 1 1, 3) := by decide +kernel
theorem d_Lexer_init_90 : decode y_Lexer_init.2.1 90 = .ok (.aload_n 0, 1) := by decide +kernel
theorem d_Lexer_init_91 : decode y_Lexer_init.2.1 91 = .ok (.getfield 27, 3) := by decide +kernel
theorem d_Lexer_init_94 : decode y_Lexer_init.2.1 94 = .ok (.iload_n 1, 1) := by decide +kernel
theorem d_Lexer_init_95 : decode y_Lexer_init.2.1 95 = .ok (.iload_n 2, 1) := by decide +kernel
theorem d_Lexer_init_96 : decode y_Lexer_init.2.1 96 = .ok (.iconst 1, 1) := by decide +kernel
theorem d_Lexer_init_97 : decode y_Lexer_init.2.1 97 = .ok (.iadd, 1) := by decide +kernel
theorem d_Lexer_init_98 : decode y_Lexer_init.2.1 98 = .ok (.iastore, 1) := by decide +kernel
theorem d_Lexer_init_99 : decode y_Lexer_init.2.1 99 = .ok (.iinc 2 1, 3) := by decide +kernel
theorem d_Lexer_init_102 : decode y_Lexer_init.2.1 102 = .ok (.goto (-41), 3) := by decide +kernel
theorem d_Lexer_init_105 : decode y_Lexer_init.2.1 105 = .ok (.return_, 1) := by decide +kernel
def y_Lexer_hasRoom : ab_Y := (⟨"WorldEngine$Lexer", "hasRoom", "(I)Z"⟩, prog_3_method_2_code, 2, (some FieldType.boolean), [])
theorem d_Lexer_hasRoom_0 : decode y_Lexer_hasRoom.2.1 0 = .ok (.aload_n 0, 1) := by decide +kernel
theorem d_Lexer_hasRoom_1 : decode y_Lexer_hasRoom.2.1 1 = .ok (.getfield 42, 3) := by decide +kernel
theorem d_Lexer_hasRoom_4 : decode y_Lexer_hasRoom.2.1 4 = .ok (.sipush 6000, 3) := by decide +kernel
theorem d_Lexer_hasRoom_7 : decode y_Lexer_hasRoom.2.1 7 = .ok (.iload_n 1, 1) := by decide +kernel
theorem d_Lexer_hasRoom_8 : decode y_Lexer_hasRoom.2.1 8 = .ok (.isub, 1) := by decide +kernel
theorem d_Lexer_hasRoom_9 : decode y_Lexer_hasRoom.2.1 9 = .ok (.if_icmp .gt 7, 3) := by decide +kernel
theorem d_Lexer_hasRoom_12 : decode y_Lexer_hasRoom.2.1 12 = .ok (.iconst 1, 1) := by decide +kernel
theorem d_Lexer_hasRoom_13 : decode y_Lexer_hasRoom.2.1 13 = .ok (.goto 4, 3) := by decide +kernel
theorem d_Lexer_hasRoom_16 : decode y_Lexer_hasRoom.2.1 16 = .ok (.iconst 0, 1) := by decide +kernel
theorem d_Lexer_hasRoom_17 : decode y_Lexer_hasRoom.2.1 17 = .ok (.ireturn, 1) := by decide +kernel
def y_Lexer_addInt : ab_Y := (⟨"WorldEngine$Lexer", "addInt", "(I)V"⟩, prog_3_method_3_code, 3, none, [])
theorem d_Lexer_addInt_0 : decode y_Lexer_addInt.2.1 0 = .ok (.bipush 24, 2) := by decide +kernel
theorem d_Lexer_addInt_2 : decode y_Lexer_addInt.2.1 2 = .ok (.istore_n 2, 1) := by decide +kernel
theorem d_Lexer_addInt_3 : decode y_Lexer_addInt.2.1 3 = .ok (.iload_n 2, 1) := by decide +kernel
theorem d_Lexer_addInt_4 : decode y_Lexer_addInt.2.1 4 = .ok (.ifCond .lt 42, 3) := by decide +kernel
theorem d_Lexer_addInt_7 : decode y_Lexer_addInt.2.1 7 = .ok (.aload_n 0, 1) := by decide +kernel
theorem d_Lexer_addInt_8 : decode y_Lexer_addInt.2.1 8 = .ok (.getfield 42, 3) := by decide +kernel
theorem d_Lexer_addInt_11 : decode y_Lexer_addInt.2.1 11 = .ok (.sipush 6000, 3) := by decide +kernel
theorem d_Lexer_addInt_14 : decode y_Lexer_addInt.2.1 14 = .ok (.if_icmp .ge 26, 3) := by decide +kernel
theorem d_Lexer_addInt_17 : decode y_Lexer_addInt.2.1 17 = .ok (.aload_n 0, 1) := by decide +kernel
theorem d_Lexer_addInt_18 : decode y_Lexer_addInt.2.1 18 = .ok (.getfield 9, 3) := by decide +kernel
theorem d_Lexer_addInt_21 : decode y_Lexer_addInt.2.1 21 = .ok (.aload_n 0, 1) := by decide +kernel
theorem d_Lexer_addInt_22 : decode y_Lexer_addInt.2.1 22 = .ok (.getfield 42, 3) := by decide +kernel
theorem d_Lexer_addInt_25 : decode y_Lexer_addInt.2.1 25 = .ok (.iload_n 1, 1) := by decide +kernel
theorem d_Lexer_addInt_26 : decode y_Lexer_addInt.2.1 26 = .ok (.iload_n 2, 1) := by decide +kernel
theorem d_Lexer_addInt_27 : decode y_Lexer_addInt.2.1 27 = .ok (.ishr, 1) := by decide +kernel
theorem d_Lexer_addInt_28 : decode y_Lexer_addInt.2.1 28 = .ok (.i2b, 1) := by decide +kernel
theorem d_Lexer_addInt_29 : decode y_Lexer_addInt.2.1 29 = .ok (.bastore, 1) := by decide +kernel
theorem d_Lexer_addInt_30 : decode y_Lexer_addInt.2.1 30 = .ok (.aload_n 0, 1) := by decide +kernel
theorem d_Lexer_addInt_31 : decode y_Lexer_addInt.2.1 31 = .ok (.dup, 1) := by decide +kernel
theorem d_Lexer_addInt_32 : decode y_Lexer_addInt.2.1 32 = .ok (.getfield 42, 3) := by decide +kernel
theorem d_Lexer_addInt_35 : decode y_Lexer_addInt.2.1 35 = .ok (.iconst 1, 1) := by decide +kernel
theorem d_Lexer_addInt_36 : decode y_Lexer_addInt.2.1 36 = .ok (.iadd, 1) := by decide +kernel
theorem d_Lexer_addInt_37 : decode y_Lexer_addInt.2.1 37 = .ok (.putfield 42, 3) := by decide +kernel
theorem d_Lexer_addInt_40 : decode y_Lexer_addInt.2.1 40 = .ok (.iinc 2 (-8), 3) := by decide +kernel
theorem d_Lexer_addInt_43 : decode y_Lexer_addInt.2.1 43 = .ok (.goto (-40), 3) := by decide +kernel
theorem d_Lexer_addInt_46 : decode y_Lexer_addInt.2.1 46 = .ok (.return_, 1) := by decide +kernel
def y_Lexer_begin : ab_Y := (⟨"WorldEngine$Lexer", "begin", "()V"⟩, prog_3_method_4_code, 4, none, [])
theorem d_Lexer_begin_0 : decode y_Lexer_begin.2.1 0 = .ok (.aload_n 0, 1) := by decide +kernel
theorem d_Lexer_begin_1 : decode y_Lexer_begin.2.1 1 = .ok (.iconst 0, 1) := by decide +kernel
theorem d_Lexer_begin_2 : decode y_Lexer_begin.2.1 2 = .ok (.putfield 45, 3) := by decide +kernel
theorem d_Lexer_begin_5 : decode y_Lexer_begin.2.1 5 = .ok (.aload_n 0, 1) := by decide +kernel
theorem d_Lexer_begin_6 : decode y_Lexer_begin.2.1 6 = .ok (.iconst 0, 1) := by decide +kernel
theorem d_Lexer_begin_7 : decode y_Lexer_begin.2.1 7 = .ok (.putfield 48, 3) := by decide +kernel
theorem d_Lexer_begin_10 : decode y_Lexer_begin.2.1 10 = .ok (.aload_n 0, 1) := by decide +kernel
theorem d_Lexer_begin_11 : decode y_Lexer_begin.2.1 11 = .ok (.iconst 0, 1) := by decide +kernel
theorem d_Lexer_begin_12 : decode y_Lexer_begin.2.1 12 = .ok (.putfield 51, 3) := by decide +kernel
theorem d_Lexer_begin_15 : decode y_Lexer_begin.2.1 15 = .ok (.iconst 1, 1) := by decide +kernel
theorem d_Lexer_begin_16 : decode y_Lexer_begin.2.1 16 = .ok (.istore_n 1, 1) := by decide +kernel
theorem d_Lexer_begin_17 : decode y_Lexer_begin.2.1 17 = .ok (.aload_n 0, 1) := by decide +kernel
theorem d_Lexer_begin_18 : decode y_Lexer_begin.2.1 18 = .ok (.iconst 0, 1) := by decide +kernel
theorem d_Lexer_begin_19 : decode y_Lexer_begin.2.1 19 = .ok (.invokevirtual 54, 3) := by decide +kernel
theorem d_Lexer_begin_22 : decode y_Lexer_begin.2.1 22 = .ok (.istore_n 2, 1) := by decide +kernel
theorem d_Lexer_begin_23 : decode y_Lexer_begin.2.1 23 = .ok (.iconst 0, 1) := by decide +kernel
theorem d_Lexer_begin_24 : decode y_Lexer_begin.2.1 24 = .ok (.istore_n 3, 1) := by decide +kernel
theorem d_Lexer_begin_25 : decode y_Lexer_begin.2.1 25 = .ok (.iload_n 3, 1) := by decide +kernel
theorem d_Lexer_begin_26 : decode y_Lexer_begin.2.1 26 = .ok (.sipush 6000, 3) := by decide +kernel
theorem d_Lexer_begin_29 : decode y_Lexer_begin.2.1 29 = .ok (.if_icmp .ge 59, 3) := by decide +kernel
theorem d_Lexer_begin_32 : decode y_Lexer_begin.2.1 32 = .ok (.iload_n 1, 1) := by decide +kernel
theorem d_Lexer_begin_33 : decode y_Lexer_begin.2.1 33 = .ok (.ifCond .eq 55, 3) := by decide +kernel
theorem d_Lexer_begin_36 : decode y_Lexer_begin.2.1 36 = .ok (.iload_n 2, 1) := by decide +kernel
theorem d_Lexer_begin_37 : decode y_Lexer_begin.2.1 37 = .ok (.aload_n 0, 1) := by decide +kernel
theorem d_Lexer_begin_38 : decode y_Lexer_begin.2.1 38 = .ok (.getfield 42, 3) := by decide +kernel
theorem d_Lexer_begin_41 : decode y_Lexer_begin.2.1 41 = .ok (.if_icmp .ge 47, 3) := by decide +kernel
theorem d_Lexer_begin_44 : decode y_Lexer_begin.2.1 44 = .ok (.aload_n 0, 1) := by decide +kernel
theorem d_Lexer_begin_45 : decode y_Lexer_begin.2.1 45 = .ok (.aload_n 0, 1) := by decide +kernel
theorem d_Lexer_begin_46 : decode y_Lexer_begin.2.1 46 = .ok (.iload_n 2, 1) := by decide +kernel
theorem d_Lexer_begin_47 : decode y_Lexer_begin.2.1 47 = .ok (.invokevirtual 58, 3) := by decide +kernel
theorem d_Lexer_begin_50 : decode y_Lexer_begin.2.1 50 = .ok (.invokevirtual 54, 3) := by decide +kernel
theorem d_Lexer_begin_53 : decode y_Lexer_begin.2.1 53 = .ok (.istore_n 2, 1) := by decide +kernel
theorem d_Lexer_begin_54 : decode y_Lexer_begin.2.1 54 = .ok (.aload_n 0, 1) := by decide +kernel
theorem d_Lexer_begin_55 : decode y_Lexer_begin.2.1 55 = .ok (.getfield 45, 3) := by decide +kernel
theorem d_Lexer_begin_58 : decode y_Lexer_begin.2.1 58 = .ok (.ifCond .le 22, 3) := by decide +kernel
theorem d_Lexer_begin_61 : decode y_Lexer_begin.2.1 61 = .ok (.aload_n 0, 1) := by decide +kernel
theorem d_Lexer_begin_62 : decode y_Lexer_begin.2.1 62 = .ok (.getfield 13, 3) := by decide +kernel
theorem d_Lexer_begin_65 : decode y_Lexer_begin.2.1 65 = .ok (.aload_n 0, 1) := by decide +kernel
theorem d_Lexer_begin_66 : decode y_Lexer_begin.2.1 66 = .ok (.getfield 45, 3) := by decide +kernel
theorem d_Lexer_begin_69 : decode y_Lexer_begin.2.1 69 = .ok (.iconst 1, 1) := by decide +kernel
theorem d_Lexer_begin_70 : decode y_Lexer_begin.2.1 70 = .ok (.isub, 1) := by decide +kernel
theorem d_Lexer_begin_71 : decode y_Lexer_begin.2.1 71 = .ok (.iaload, 1) := by decide +kernel
theorem d_Lexer_begin_72 : decode y_Lexer_begin.2.1 72 = .ok (.iconst 1, 1) := by decide +kernel
theorem d_Lexer_begin_73 : decode y_Lexer_begin.2.1 73 = .ok (.if_icmp .eq 7, 3) := by decide +kernel
theorem d_Lexer_begin_76 : decode y_Lexer_begin.2.1 76 = .ok (.iconst 1, 1) := by decide +kernel
theorem d_Lexer_begin_77 : decode y_Lexer_begin.2.1 77 = .ok (.goto 4, 3) := by decide +kernel
theorem d_Lexer_begin_80 : decode y_Lexer_begin.2.1 80 = .ok (.iconst 0, 1) := by decide +kernel
theorem d_Lexer_begin_81 : decode y_Lexer_begin.2.1 81 = .ok (.istore_n 1, 1) := by decide +kernel
theorem d_Lexer_begin_82 : decode y_Lexer_begin.2.1 82 = .ok (.iinc 3 1, 3) := by decide +kernel
theorem d_Lexer_begin_85 : decode y_Lexer_begin.2.1 85 = .ok (.goto (-60), 3) := by decide +kernel
theorem d_Lexer_begin_88 : decode y_Lexer_begin.2.1 88 = .ok (.iload_n 1, 1) := by decide +kernel
theorem d_Lexer_begin_89 : decode y_Lexer_begin.2.1 89 = .ok (.ifCond .eq 14, 3) := by decide +kernel
theorem d_Lexer_begin_92 : decode y_Lexer_begin.2.1 92 = .ok (.aload_n 0, 1) := by decide +kernel
theorem d_Lexer_begin_93 : decode y_Lexer_begin.2.1 93 = .ok (.iconst 0, 1) := by decide +kernel
theorem d_Lexer_begin_94 : decode y_Lexer_begin.2.1 94 = .ok (.aload_n 0, 1) := by decide +kernel
theorem d_Lexer_begin_95 : decode y_Lexer_begin.2.1 95 = .ok (.getfield 42, 3) := by decide +kernel
theorem d_Lexer_begin_98 : decode y_Lexer_begin.2.1 98 = .ok (.iconst 0, 1) := by decide +kernel
theorem d_Lexer_begin_99 : decode y_Lexer_begin.2.1 99 = .ok (.iconst 0, 1) := by decide +kernel
theorem d_Lexer_begin_100 : decode y_Lexer_begin.2.1 100 = .ok (.invokevirtual 61, 3) := by decide +kernel
theorem d_Lexer_begin_103 : decode y_Lexer_begin.2.1 103 = .ok (.aload_n 0, 1) := by decide +kernel
theorem d_Lexer_begin_104 : decode y_Lexer_begin.2.1 104 = .ok (.iconst 0, 1) := by decide +kernel
theorem d_Lexer_begin_105 : decode y_Lexer_begin.2.1 105 = .ok (.putfield 65, 3) := by decide +kernel
theorem d_Lexer_begin_108 : decode y_Lexer_begin.2.1 108 = .ok (.aload_n 0, 1) := by decide +kernel
theorem d_Lexer_begin_109 : decode y_Lexer_begin.2.1 109 = .ok (.aload_n 0, 1) := by decide +kernel
theorem d_Lexer_begin_110 : decode y_Lexer_begin.2.1 110 = .ok (.getfield 13, 3) := by decide +kernel
theorem d_Lexer_begin_113 : decode y_Lexer_begin.2.1 113 = .ok (.iconst 0, 1) := by decide +kernel
theorem d_Lexer_begin_114 : decode y_Lexer_begin.2.1 114 = .ok (.iaload, 1) := by decide +kernel
theorem d_Lexer_begin_115 : decode y_Lexer_begin.2.1 115 = .ok (.putfield 68, 3) := by decide +kernel
theorem d_Lexer_begin_118 : decode y_Lexer_begin.2.1 118 = .ok (.aload_n 0, 1) := by decide +kernel
theorem d_Lexer_begin_119 : decode y_Lexer_begin.2.1 119 = .ok (.aload_n 0, 1) := by decide +kernel
theorem d_Lexer_begin_120 : decode y_Lexer_begin.2.1 120 = .ok (.getfield 17, 3) := by decide +kernel
theorem d_Lexer_begin_123 : decode y_Lexer_begin.2.1 123 = .ok (.iconst 0, 1) := by decide +kernel
theorem d_Lexer_begin_124 : decode y_Lexer_begin.2.1 124 = .ok (.iaload, 1) := by decide +kernel
theorem d_Lexer_begin_125 : decode y_Lexer_begin.2.1 125 = .ok (.putfield 71, 3) := by decide +kernel
theorem d_Lexer_begin_128 : decode y_Lexer_begin.2.1 128 = .ok (.return_, 1) := by decide +kernel
def y_Lexer_behindBlanks : ab_Y := (⟨"WorldEngine$Lexer", "behindBlanks", "(I)I"⟩, prog_3_method_6_code, 5, (some FieldType.int), [])
theorem d_Lexer_behindBlanks_0 : decode y_Lexer_behindBlanks.2.1 0 = .ok (.iconst 0, 1) := by decide +kernel
theorem d_Lexer_behindBlanks_1 : decode y_Lexer_behindBlanks.2.1 1 = .ok (.istore_n 2, 1) := by decide +kernel
theorem d_Lexer_behindBlanks_2 : decode y_Lexer_behindBlanks.2.1 2 = .ok (.iload_n 1, 1) := by decide +kernel
theorem d_Lexer_behindBlanks_3 : decode y_Lexer_behindBlanks.2.1 3 = .ok (.istore_n 3, 1) := by decide +kernel
theorem d_Lexer_behindBlanks_4 : decode y_Lexer_behindBlanks.2.1 4 = .ok (.iload_n 3, 1) := by decide +kernel
theorem d_Lexer_behindBlanks_5 : decode y_Lexer_behindBlanks.2.1 5 = .ok (.aload_n 0, 1) := by decide +kernel
theorem d_Lexer_behindBlanks_6 : decode y_Lexer_behindBlanks.2.1 6 = .ok (.getfield 42, 3) := by decide +kernel
theorem d_Lexer_behindBlanks_9 : decode y_Lexer_behindBlanks.2.1 9 = .ok (.if_icmp .ge 67, 3) := by decide +kernel
theorem d_Lexer_behindBlanks_12 : decode y_Lexer_behindBlanks.2.1 12 = .ok (.aload_n 0, 1) := by decide +kernel
theorem d_Lexer_behindBlanks_13 : decode y_Lexer_behindBlanks.2.1 13 = .ok (.iload_n 3, 1) := by decide +kernel
theorem d_Lexer_behindBlanks_14 : decode y_Lexer_behindBlanks.2.1 14 = .ok (.invokevirtual 74, 3) := by decide +kernel
theorem d_Lexer_behindBlanks_17 : decode y_Lexer_behindBlanks.2.1 17 = .ok (.istore 4, 2) := by decide +kernel
theorem d_Lexer_behindBlanks_19 : decode y_Lexer_behindBlanks.2.1 19 = .ok (.iload 4, 2) := by decide +kernel
theorem d_Lexer_behindBlanks_21 : decode y_Lexer_behindBlanks.2.1 21 = .ok (.bipush 35, 2) := by decide +kernel
theorem d_Lexer_behindBlanks_23 : decode y_Lexer_behindBlanks.2.1 23 = .ok (.if_icmp .ne 8, 3) := by decide +kernel
theorem d_Lexer_behindBlanks_26 : decode y_Lexer_behindBlanks.2.1 26 = .ok (.iconst 1, 1) := by decide +kernel
theorem d_Lexer_behindBlanks_27 : decode y_Lexer_behindBlanks.2.1 27 = .ok (.istore_n 2, 1) := by decide +kernel
theorem d_Lexer_behindBlanks_28 : decode y_Lexer_behindBlanks.2.1 28 = .ok (.goto 42, 3) := by decide +kernel
theorem d_Lexer_behindBlanks_31 : decode y_Lexer_behindBlanks.2.1 31 = .ok (.iload 4, 2) := by decide +kernel
theorem d_Lexer_behindBlanks_33 : decode y_Lexer_behindBlanks.2.1 33 = .ok (.bipush 10, 2) := by decide +kernel
theorem d_Lexer_behindBlanks_35 : decode y_Lexer_behindBlanks.2.1 35 = .ok (.if_icmp .ne 8, 3) := by decide +kernel
theorem d_Lexer_behindBlanks_38 : decode y_Lexer_behindBlanks.2.1 38 = .ok (.iconst 0, 1) := by decide +kernel
theorem d_Lexer_behindBlanks_39 : decode y_Lexer_behindBlanks.2.1 39 = .ok (.istore_n 2, 1) := by decide +kernel
theorem d_Lexer_behindBlanks_40 : decode y_Lexer_behindBlanks.2.1 40 = .ok (.goto 30, 3) := by decide +kernel
theorem d_Lexer_behindBlanks_43 : decode y_Lexer_behindBlanks.2.1 43 = .ok (.iload_n 2, 1) := by decide +kernel
theorem d_Lexer_behindBlanks_44 : decode y_Lexer_behindBlanks.2.1 44 = .ok (.ifCond .ne 26, 3) := by decide +kernel
theorem d_Lexer_behindBlanks_47 : decode y_Lexer_behindBlanks.2.1 47 = .ok (.iload 4, 2) := by decide +kernel
theorem d_Lexer_behindBlanks_49 : decode y_Lexer_behindBlanks.2.1 49 = .ok (.bipush 9, 2) := by decide +kernel
theorem d_Lexer_behindBlanks_51 : decode y_Lexer_behindBlanks.2.1 51 = .ok (.if_icmp .eq 19, 3) := by decide +kernel
theorem d_Lexer_behindBlanks_54 : decode y_Lexer_behindBlanks.2.1 54 = .ok (.iload 4, 2) := by decide +kernel
theorem d_Lexer_behindBlanks_56 : decode y_Lexer_behindBlanks.2.1 56 = .ok (.bipush 13, 2) := by decide +kernel
theorem d_Lexer_behindBlanks_58 : decode y_Lexer_behindBlanks.2.1 58 = .ok (.if_icmp .eq 12, 3) := by decide +kernel
theorem d_Lexer_behindBlanks_61 : decode y_Lexer_behindBlanks.2.1 61 = .ok (.iload 4, 2) := by decide +kernel
theorem d_Lexer_behindBlanks_63 : decode y_Lexer_behindBlanks.2.1 63 = .ok (.bipush 32, 2) := by decide +kernel
theorem d_Lexer_behindBlanks_65 : decode y_Lexer_behindBlanks.2.1 65 = .ok (.if_icmp .eq 5, 3) := by decide +kernel
theorem d_Lexer_behindBlanks_68 : decode y_Lexer_behindBlanks.2.1 68 = .ok (.iload_n 3, 1) := by decide +kernel
theorem d_Lexer_behindBlanks_69 : decode y_Lexer_behindBlanks.2.1 69 = .ok (.ireturn, 1) := by decide +kernel
theorem d_Lexer_behindBlanks_70 : decode y_Lexer_behindBlanks.2.1 70 = .ok (.iinc 3 1, 3) := by decide +kernel
theorem d_Lexer_behindBlanks_73 : decode y_Lexer_behindBlanks.2.1 73 = .ok (.goto (-69), 3) := by decide +kernel
theorem d_Lexer_behindBlanks_76 : decode y_Lexer_behindBlanks.2.1 76 = .ok (.aload_n 0, 1) := by decide +kernel
theorem d_Lexer_behindBlanks_77 : decode y_Lexer_behindBlanks.2.1 77 = .ok (.getfield 42, 3) := by decide +kernel
theorem d_Lexer_behindBlanks_80 : decode y_Lexer_behindBlanks.2.1 80 = .ok (.ireturn, 1) := by decide +kernel
def y_Lexer_byteAt : ab_Y := (⟨"WorldEngine$Lexer", "byteAt", "(I)I"⟩, prog_3_method_5_code, 2, (some FieldType.int), [])
theorem d_Lexer_byteAt_0 : decode y_Lexer_byteAt.2.1 0 = .ok (.iload_n 1, 1) := by decide +kernel
theorem d_Lexer_byteAt_1 : decode y_Lexer_byteAt.2.1 1 = .ok (.aload_n 0, 1) := by decide +kernel
theorem d_Lexer_byteAt_2 : decode y_Lexer_byteAt.2.1 2 = .ok (.getfield 42, 3) := by decide +kernel
theorem d_Lexer_byteAt_5 : decode y_Lexer_byteAt.2.1 5 = .ok (.if_icmp .ge 16, 3) := by decide +kernel
theorem d_Lexer_byteAt_8 : decode y_Lexer_byteAt.2.1 8 = .ok (.aload_n 0, 1) := by decide +kernel
theorem d_Lexer_byteAt_9 : decode y_Lexer_byteAt.2.1 9 = .ok (.getfield 9, 3) := by decide +kernel
theorem d_Lexer_byteAt_12 : decode y_Lexer_byteAt.2.1 12 = .ok (.iload_n 1, 1) := by decide +kernel
theorem d_Lexer_byteAt_13 : decode y_Lexer_byteAt.2.1 13 = .ok (.baload, 1) := by decide +kernel
theorem d_Lexer_byteAt_14 : decode y_Lexer_byteAt.2.1 14 = .ok (.sipush 255, 3) := by decide +kernel
theorem d_Lexer_byteAt_17 : decode y_Lexer_byteAt.2.1 17 = .ok (.iand, 1) := by decide +kernel
theorem d_Lexer_byteAt_18 : decode y_Lexer_byteAt.2.1 18 = .ok (.goto 4, 3) := by decide +kernel
theorem d_Lexer_byteAt_21 : decode y_Lexer_byteAt.2.1 21 = .ok (.iconst 0, 1) := by decide +kernel
theorem d_Lexer_byteAt_22 : decode y_Lexer_byteAt.2.1 22 = .ok (.ireturn, 1) := by decide +kernel
def y_Lexer_behindToken : ab_Y := (⟨"WorldEngine$Lexer", "behindToken", "(I)I"⟩, prog_3_method_7_code, 3, (some FieldType.int), [])
theorem d_Lexer_behindToken_0 : decode y_Lexer_behindToken.2.1 0 = .ok (.aload_n 0, 1) := by decide +kernel
theorem d_Lexer_behindToken_1 : decode y_Lexer_behindToken.2.1 1 = .ok (.iload_n 1, 1) := by decide +kernel
theorem d_Lexer_behindToken_2 : decode y_Lexer_behindToken.2.1 2 = .ok (.invokevirtual 74, 3) := by decide +kernel
theorem d_Lexer_behindToken_5 : decode y_Lexer_behindToken.2.1 5 = .ok (.istore_n 2, 1) := by decide +kernel
theorem d_Lexer_behindToken_6 : decode y_Lexer_behindToken.2.1 6 = .ok (.iload_n 2, 1) := by decide +kernel
theorem d_Lexer_behindToken_7 : decode y_Lexer_behindToken.2.1 7 = .ok (.invokestatic 77, 3) := by decide +kernel
theorem d_Lexer_behindToken_10 : decode y_Lexer_behindToken.2.1 10 = .ok (.ifCond .eq 9, 3) := by decide +kernel
theorem d_Lexer_behindToken_13 : decode y_Lexer_behindToken.2.1 13 = .ok (.aload_n 0, 1) := by decide +kernel
theorem d_Lexer_behindToken_14 : decode y_Lexer_behindToken.2.1 14 = .ok (.iload_n 1, 1) := by decide +kernel
theorem d_Lexer_behindToken_15 : decode y_Lexer_behindToken.2.1 15 = .ok (.invokevirtual 81, 3) := by decide +kernel
theorem d_Lexer_behindToken_18 : decode y_Lexer_behindToken.2.1 18 = .ok (.ireturn, 1) := by decide +kernel
theorem d_Lexer_behindToken_19 : decode y_Lexer_behindToken.2.1 19 = .ok (.iload_n 2, 1) := by decide +kernel
theorem d_Lexer_behindToken_20 : decode y_Lexer_behindToken.2.1 20 = .ok (.invokestatic 84, 3) := by decide +kernel
theorem d_Lexer_behindToken_23 : decode y_Lexer_behindToken.2.1 23 = .ok (.ifCond .eq 9, 3) := by decide +kernel
theorem d_Lexer_behindToken_26 : decode y_Lexer_behindToken.2.1 26 = .ok (.aload_n 0, 1) := by decide +kernel
theorem d_Lexer_behindToken_27 : decode y_Lexer_behindToken.2.1 27 = .ok (.iload_n 1, 1) := by decide +kernel
theorem d_Lexer_behindToken_28 : decode y_Lexer_behindToken.2.1 28 = .ok (.invokevirtual 87, 3) := by decide +kernel
theorem d_Lexer_behindToken_31 : decode y_Lexer_behindToken.2.1 31 = .ok (.ireturn, 1) := by decide +kernel
theorem d_Lexer_behindToken_32 : decode y_Lexer_behindToken.2.1 32 = .ok (.aload_n 0, 1) := by decide +kernel
theorem d_Lexer_behindToken_33 : decode y_Lexer_behindToken.2.1 33 = .ok (.iload_n 1, 1) := by decide +kernel
theorem d_Lexer_behindToken_34 : decode y_Lexer_behindToken.2.1 34 = .ok (.invokevirtual 90, 3) := by decide +kernel
theorem d_Lexer_behindToken_37 : decode y_Lexer_behindToken.2.1 37 = .ok (.ireturn, 1) := by decide +kernel
def y_Lexer_isLetter : ab_Y := (⟨"WorldEngine$Lexer", "isLetter", "(I)Z"⟩, prog_3_method_8_code, 1, (some FieldType.boolean), [])
theorem d_Lexer_isLetter_0 : decode y_Lexer_isLetter.2.1 0 = .ok (.iload_n 0, 1) := by decide +kernel
theorem d_Lexer_isLetter_1 : decode y_Lexer_isLetter.2.1 1 = .ok (.bipush 97, 2) := by decide +kernel
theorem d_Lexer_isLetter_3 : decode y_Lexer_isLetter.2.1 3 = .ok (.if_icmp .lt 9, 3) := by decide +kernel
theorem d_Lexer_isLetter_6 : decode y_Lexer_isLetter.2.1 6 = .ok (.iload_n 0, 1) := by decide +kernel
theorem d_Lexer_isLetter_7 : decode y_Lexer_isLetter.2.1 7 = .ok (.bipush 122, 2) := by decide +kernel
theorem d_Lexer_isLetter_9 : decode y_Lexer_isLetter.2.1 9 = .ok (.if_icmp .le 15, 3) := by decide +kernel
theorem d_Lexer_isLetter_12 : decode y_Lexer_isLetter.2.1 12 = .ok (.iload_n 0, 1) := by decide +kernel
theorem d_Lexer_isLetter_13 : decode y_Lexer_isLetter.2.1 13 = .ok (.bipush 65, 2) := by decide +kernel
theorem d_Lexer_isLetter_15 : decode y_Lexer_isLetter.2.1 15 = .ok (.if_icmp .lt 13, 3) := by decide +kernel
theorem d_Lexer_isLetter_18 : decode y_Lexer_isLetter.2.1 18 = .ok (.iload_n 0, 1) := by decide +kernel
theorem d_Lexer_isLetter_19 : decode y_Lexer_isLetter.2.1 19 = .ok (.bipush 90, 2) := by decide +kernel
theorem d_Lexer_isLetter_21 : decode y_Lexer_isLetter.2.1 21 = .ok (.if_icmp .gt 7, 3) := by decide +kernel
theorem d_Lexer_isLetter_24 : decode y_Lexer_isLetter.2.1 24 = .ok (.iconst 1, 1) := by decide +kernel
theorem d_Lexer_isLetter_25 : decode y_Lexer_isLetter.2.1 25 = .ok (.goto 4, 3) := by decide +kernel
theorem d_Lexer_isLetter_28 : decode y_Lexer_isLetter.2.1 28 = .ok (.iconst 0, 1) := by decide +kernel
theorem d_Lexer_isLetter_29 : decode y_Lexer_isLetter.2.1 29 = .ok (.ireturn, 1) := by decide +kernel
def y_Lexer_behindName : ab_Y := (⟨"WorldEngine$Lexer", "behindName", "(I)I"⟩, prog_3_method_10_code, 4, (some FieldType.int), [])
theorem d_Lexer_behindName_0 : decode y_Lexer_behindName.2.1 0 = .ok (.iload_n 1, 1) := by decide +kernel
theorem d_Lexer_behindName_1 : decode y_Lexer_behindName.2.1 1 = .ok (.istore_n 2, 1) := by decide +kernel
theorem d_Lexer_behindName_2 : decode y_Lexer_behindName.2.1 2 = .ok (.iload_n 2, 1) := by decide +kernel
theorem d_Lexer_behindName_3 : decode y_Lexer_behindName.2.1 3 = .ok (.aload_n 0, 1) := by decide +kernel
theorem d_Lexer_behindName_4 : decode y_Lexer_behindName.2.1 4 = .ok (.getfield 42, 3) := by decide +kernel
theorem d_Lexer_behindName_7 : decode y_Lexer_behindName.2.1 7 = .ok (.if_icmp .ge 31, 3) := by decide +kernel
theorem d_Lexer_behindName_10 : decode y_Lexer_behindName.2.1 10 = .ok (.aload_n 0, 1) := by decide +kernel
theorem d_Lexer_behindName_11 : decode y_Lexer_behindName.2.1 11 = .ok (.iload_n 2, 1) := by decide +kernel
theorem d_Lexer_behindName_12 : decode y_Lexer_behindName.2.1 12 = .ok (.invokevirtual 74, 3) := by decide +kernel
theorem d_Lexer_behindName_15 : decode y_Lexer_behindName.2.1 15 = .ok (.invokestatic 77, 3) := by decide +kernel
theorem d_Lexer_behindName_18 : decode y_Lexer_behindName.2.1 18 = .ok (.ifCond .ne 14, 3) := by decide +kernel
theorem d_Lexer_behindName_21 : decode y_Lexer_behindName.2.1 21 = .ok (.aload_n 0, 1) := by decide +kernel
theorem d_Lexer_behindName_22 : decode y_Lexer_behindName.2.1 22 = .ok (.iload_n 2, 1) := by decide +kernel
theorem d_Lexer_behindName_23 : decode y_Lexer_behindName.2.1 23 = .ok (.invokevirtual 74, 3) := by decide +kernel
theorem d_Lexer_behindName_26 : decode y_Lexer_behindName.2.1 26 = .ok (.invokestatic 84, 3) := by decide +kernel
theorem d_Lexer_behindName_29 : decode y_Lexer_behindName.2.1 29 = .ok (.ifCond .eq 9, 3) := by decide +kernel
theorem d_Lexer_behindName_32 : decode y_Lexer_behindName.2.1 32 = .ok (.iinc 2 1, 3) := by decide +kernel
theorem d_Lexer_behindName_35 : decode y_Lexer_behindName.2.1 35 = .ok (.goto (-33), 3) := by decide +kernel
theorem d_Lexer_behindName_38 : decode y_Lexer_behindName.2.1 38 = .ok (.iload_n 2, 1) := by decide +kernel
theorem d_Lexer_behindName_39 : decode y_Lexer_behindName.2.1 39 = .ok (.iload_n 1, 1) := by decide +kernel
theorem d_Lexer_behindName_40 : decode y_Lexer_behindName.2.1 40 = .ok (.isub, 1) := by decide +kernel
theorem d_Lexer_behindName_41 : decode y_Lexer_behindName.2.1 41 = .ok (.istore_n 3, 1) := by decide +kernel
theorem d_Lexer_behindName_42 : decode y_Lexer_behindName.2.1 42 = .ok (.aload_n 0, 1) := by decide +kernel
theorem d_Lexer_behindName_43 : decode y_Lexer_behindName.2.1 43 = .ok (.aload_n 0, 1) := by decide +kernel
theorem d_Lexer_behindName_44 : decode y_Lexer_behindName.2.1 44 = .ok (.iload_n 1, 1) := by decide +kernel
theorem d_Lexer_behindName_45 : decode y_Lexer_behindName.2.1 45 = .ok (.iload_n 3, 1) := by decide +kernel
theorem d_Lexer_behindName_46 : decode y_Lexer_behindName.2.1 46 = .ok (.invokevirtual 93, 3) := by decide +kernel
theorem d_Lexer_behindName_49 : decode y_Lexer_behindName.2.1 49 = .ok (.iload_n 1, 1) := by decide +kernel
theorem d_Lexer_behindName_50 : decode y_Lexer_behindName.2.1 50 = .ok (.iload_n 3, 1) := by decide +kernel
theorem d_Lexer_behindName_51 : decode y_Lexer_behindName.2.1 51 = .ok (.iload_n 3, 1) := by decide +kernel
theorem d_Lexer_behindName_52 : decode y_Lexer_behindName.2.1 52 = .ok (.bipush 12, 2) := by decide +kernel
theorem d_Lexer_behindName_54 : decode y_Lexer_behindName.2.1 54 = .ok (.if_icmp .le 7, 3) := by decide +kernel
theorem d_Lexer_behindName_57 : decode y_Lexer_behindName.2.1 57 = .ok (.iconst 1, 1) := by decide +kernel
theorem d_Lexer_behindName_58 : decode y_Lexer_behindName.2.1 58 = .ok (.goto 4, 3) := by decide +kernel
theorem d_Lexer_behindName_61 : decode y_Lexer_behindName.2.1 61 = .ok (.iconst 0, 1) := by decide +kernel
theorem d_Lexer_behindName_62 : decode y_Lexer_behindName.2.1 62 = .ok (.invokevirtual 61, 3) := by decide +kernel
theorem d_Lexer_behindName_65 : decode y_Lexer_behindName.2.1 65 = .ok (.iload_n 2, 1) := by decide +kernel
theorem d_Lexer_behindName_66 : decode y_Lexer_behindName.2.1 66 = .ok (.ireturn, 1) := by decide +kernel
def y_Lexer_isDigit : ab_Y := (⟨"WorldEngine$Lexer", "isDigit", "(I)Z"⟩, prog_3_method_9_code, 1, (some FieldType.boolean), [])
theorem d_Lexer_isDigit_0 : decode y_Lexer_isDigit.2.1 0 = .ok (.iload_n 0, 1) := by decide +kernel
theorem d_Lexer_isDigit_1 : decode y_Lexer_isDigit.2.1 1 = .ok (.bipush 48, 2) := by decide +kernel
theorem d_Lexer_isDigit_3 : decode y_Lexer_isDigit.2.1 3 = .ok (.if_icmp .lt 13, 3) := by decide +kernel
theorem d_Lexer_isDigit_6 : decode y_Lexer_isDigit.2.1 6 = .ok (.iload_n 0, 1) := by decide +kernel
theorem d_Lexer_isDigit_7 : decode y_Lexer_isDigit.2.1 7 = .ok (.bipush 57, 2) := by decide +kernel
theorem d_Lexer_isDigit_9 : decode y_Lexer_isDigit.2.1 9 = .ok (.if_icmp .gt 7, 3) := by decide +kernel
theorem d_Lexer_isDigit_12 : decode y_Lexer_isDigit.2.1 12 = .ok (.iconst 1, 1) := by decide +kernel
theorem d_Lexer_isDigit_13 : decode y_Lexer_isDigit.2.1 13 = .ok (.goto 4, 3) := by decide +kernel
theorem d_Lexer_isDigit_16 : decode y_Lexer_isDigit.2.1 16 = .ok (.iconst 0, 1) := by decide +kernel
theorem d_Lexer_isDigit_17 : decode y_Lexer_isDigit.2.1 17 = .ok (.ireturn, 1) := by decide +kernel
def y_Lexer_wordOf : ab_Y := (⟨"WorldEngine$Lexer", "wordOf", "(II)I"⟩, prog_3_method_11_code, 5, (some FieldType.int), [])
theorem d_Lexer_wordOf_0 : decode y_Lexer_wordOf.2.1 0 = .ok (.iconst 0, 1) := by decide +kernel
theorem d_Lexer_wordOf_1 : decode y_Lexer_wordOf.2.1 1 = .ok (.istore_n 3, 1) := by decide +kernel
theorem d_Lexer_wordOf_2 : decode y_Lexer_wordOf.2.1 2 = .ok (.iload_n 3, 1) := by decide +kernel
theorem d_Lexer_wordOf_3 : decode y_Lexer_wordOf.2.1 3 = .ok (.bipush 41, 2) := by decide +kernel
theorem d_Lexer_wordOf_5 : decode y_Lexer_wordOf.2.1 5 = .ok (.if_icmp .ge 81, 3) := by decide +kernel
theorem d_Lexer_wordOf_8 : decode y_Lexer_wordOf.2.1 8 = .ok (.aload_n 0, 1) := by decide +kernel
theorem d_Lexer_wordOf_9 : decode y_Lexer_wordOf.2.1 9 = .ok (.getfield 27, 3) := by decide +kernel
theorem d_Lexer_wordOf_12 : decode y_Lexer_wordOf.2.1 12 = .ok (.iload_n 3, 1) := by decide +kernel
theorem d_Lexer_wordOf_13 : decode y_Lexer_wordOf.2.1 13 = .ok (.iconst 1, 1) := by decide +kernel
theorem d_Lexer_wordOf_14 : decode y_Lexer_wordOf.2.1 14 = .ok (.iadd, 1) := by decide +kernel
theorem d_Lexer_wordOf_15 : decode y_Lexer_wordOf.2.1 15 = .ok (.iaload, 1) := by decide +kernel
theorem d_Lexer_wordOf_16 : decode y_Lexer_wordOf.2.1 16 = .ok (.iconst 1, 1) := by decide +kernel
theorem d_Lexer_wordOf_17 : decode y_Lexer_wordOf.2.1 17 = .ok (.isub, 1) := by decide +kernel
theorem d_Lexer_wordOf_18 : decode y_Lexer_wordOf.2.1 18 = .ok (.aload_n 0, 1) := by decide +kernel
theorem d_Lexer_wordOf_19 : decode y_Lexer_wordOf.2.1 19 = .ok (.getfield 27, 3) := by decide +kernel
theorem d_Lexer_wordOf_22 : decode y_Lexer_wordOf.2.1 22 = .ok (.iload_n 3, 1) := by decide +kernel
theorem d_Lexer_wordOf_23 : decode y_Lexer_wordOf.2.1 23 = .ok (.iaload, 1) := by decide +kernel
theorem d_Lexer_wordOf_24 : decode y_Lexer_wordOf.2.1 24 = .ok (.isub, 1) := by decide +kernel
theorem d_Lexer_wordOf_25 : decode y_Lexer_wordOf.2.1 25 = .ok (.iload_n 2, 1) := by decide +kernel
theorem d_Lexer_wordOf_26 : decode y_Lexer_wordOf.2.1 26 = .ok (.if_icmp .ne 54, 3) := by decide +kernel
theorem d_Lexer_wordOf_29 : decode y_Lexer_wordOf.2.1 29 = .ok (.iconst 0, 1) := by decide +kernel
theorem d_Lexer_wordOf_30 : decode y_Lexer_wordOf.2.1 30 = .ok (.istore 4, 2) := by decide +kernel
theorem d_Lexer_wordOf_32 : decode y_Lexer_wordOf.2.1 32 = .ok (.iload 4, 2) := by decide +kernel
theorem d_Lexer_wordOf_34 : decode y_Lexer_wordOf.2.1 34 = .ok (.iload_n 2, 1) := by decide +kernel
theorem d_Lexer_wordOf_35 : decode y_Lexer_wordOf.2.1 35 = .ok (.if_icmp .ge 34, 3) := by decide +kernel
theorem d_Lexer_wordOf_38 : decode y_Lexer_wordOf.2.1 38 = .ok (.aload_n 0, 1) := by decide +kernel
theorem d_Lexer_wordOf_39 : decode y_Lexer_wordOf.2.1 39 = .ok (.iload_n 1, 1) := by decide +kernel
theorem d_Lexer_wordOf_40 : decode y_Lexer_wordOf.2.1 40 = .ok (.iload 4, 2) := by decide +kernel
theorem d_Lexer_wordOf_42 : decode y_Lexer_wordOf.2.1 42 = .ok (.iadd, 1) := by decide +kernel
theorem d_Lexer_wordOf_43 : decode y_Lexer_wordOf.2.1 43 = .ok (.invokevirtual 74, 3) := by decide +kernel
theorem d_Lexer_wordOf_46 : decode y_Lexer_wordOf.2.1 46 = .ok (.ldc 30, 2) := by decide +kernel
theorem d_Lexer_wordOf_48 : decode y_Lexer_wordOf.2.1 48 = .ok (.aload_n 0, 1) := by decide +kernel
theorem d_Lexer_wordOf_49 : decode y_Lexer_wordOf.2.1 49 = .ok (.getfield 27, 3) := by decide +kernel
theorem d_Lexer_wordOf_52 : decode y_Lexer_wordOf.2.1 52 = .ok (.iload_n 3, 1) := by decide +kernel
theorem d_Lexer_wordOf_53 : decode y_Lexer_wordOf.2.1 53 = .ok (.iaload, 1) := by decide +kernel
theorem d_Lexer_wordOf_54 : decode y_Lexer_wordOf.2.1 54 = .ok (.iload 4, 2) := by decide +kernel
theorem d_Lexer_wordOf_56 : decode y_Lexer_wordOf.2.1 56 = .ok (.iadd, 1) := by decide +kernel
theorem d_Lexer_wordOf_57 : decode y_Lexer_wordOf.2.1 57 = .ok (.invokevirtual 38, 3) := by decide +kernel
theorem d_Lexer_wordOf_60 : decode y_Lexer_wordOf.2.1 60 = .ok (.if_icmp .ne 9, 3) := by decide +kernel
theorem d_Lexer_wordOf_63 : decode y_Lexer_wordOf.2.1 63 = .ok (.iinc 4 1, 3) := by decide +kernel
theorem d_Lexer_wordOf_66 : decode y_Lexer_wordOf.2.1 66 = .ok (.goto (-34), 3) := by decide +kernel
theorem d_Lexer_wordOf_69 : decode y_Lexer_wordOf.2.1 69 = .ok (.iload 4, 2) := by decide +kernel
theorem d_Lexer_wordOf_71 : decode y_Lexer_wordOf.2.1 71 = .ok (.iload_n 2, 1) := by decide +kernel
theorem d_Lexer_wordOf_72 : decode y_Lexer_wordOf.2.1 72 = .ok (.if_icmp .ne 8, 3) := by decide +kernel
theorem d_Lexer_wordOf_75 : decode y_Lexer_wordOf.2.1 75 = .ok (.bipush 40, 2) := by decide +kernel
theorem d_Lexer_wordOf_77 : decode y_Lexer_wordOf.2.1 77 = .ok (.iload_n 3, 1) := by decide +kernel
theorem d_Lexer_wordOf_78 : decode y_Lexer_wordOf.2.1 78 = .ok (.iadd, 1) := by decide +kernel
theorem d_Lexer_wordOf_79 : decode y_Lexer_wordOf.2.1 79 = .ok (.ireturn, 1) := by decide +kernel
theorem d_Lexer_wordOf_80 : decode y_Lexer_wordOf.2.1 80 = .ok (.iinc 3 1, 3) := by decide +kernel
theorem d_Lexer_wordOf_83 : decode y_Lexer_wordOf.2.1 83 = .ok (.goto (-81), 3) := by decide +kernel
theorem d_Lexer_wordOf_86 : decode y_Lexer_wordOf.2.1 86 = .ok (.iconst 2, 1) := by decide +kernel
theorem d_Lexer_wordOf_87 : decode y_Lexer_wordOf.2.1 87 = .ok (.ireturn, 1) := by decide +kernel
def y_Lexer_note : ab_Y := (⟨"WorldEngine$Lexer", "note", "(IIIZ)V"⟩, prog_3_method_14_code, 5, none, [])
theorem d_Lexer_note_0 : decode y_Lexer_note.2.1 0 = .ok (.aload_n 0, 1) := by decide +kernel
theorem d_Lexer_note_1 : decode y_Lexer_note.2.1 1 = .ok (.getfield 45, 3) := by decide +kernel
theorem d_Lexer_note_4 : decode y_Lexer_note.2.1 4 = .ok (.aload_n 0, 1) := by decide +kernel
theorem d_Lexer_note_5 : decode y_Lexer_note.2.1 5 = .ok (.getfield 13, 3) := by decide +kernel
theorem d_Lexer_note_8 : decode y_Lexer_note.2.1 8 = .ok (.arraylength, 1) := by decide +kernel
theorem d_Lexer_note_9 : decode y_Lexer_note.2.1 9 = .ok (.if_icmp .ge 54, 3) := by decide +kernel
theorem d_Lexer_note_12 : decode y_Lexer_note.2.1 12 = .ok (.aload_n 0, 1) := by decide +kernel
theorem d_Lexer_note_13 : decode y_Lexer_note.2.1 13 = .ok (.getfield 13, 3) := by decide +kernel
theorem d_Lexer_note_16 : decode y_Lexer_note.2.1 16 = .ok (.aload_n 0, 1) := by decide +kernel
theorem d_Lexer_note_17 : decode y_Lexer_note.2.1 17 = .ok (.getfield 45, 3) := by decide +kernel
theorem d_Lexer_note_20 : decode y_Lexer_note.2.1 20 = .ok (.iload_n 1, 1) := by decide +kernel
theorem d_Lexer_note_21 : decode y_Lexer_note.2.1 21 = .ok (.iastore, 1) := by decide +kernel
theorem d_Lexer_note_22 : decode y_Lexer_note.2.1 22 = .ok (.aload_n 0, 1) := by decide +kernel
theorem d_Lexer_note_23 : decode y_Lexer_note.2.1 23 = .ok (.getfield 17, 3) := by decide +kernel
theorem d_Lexer_note_26 : decode y_Lexer_note.2.1 26 = .ok (.aload_n 0, 1) := by decide +kernel
theorem d_Lexer_note_27 : decode y_Lexer_note.2.1 27 = .ok (.getfield 45, 3) := by decide +kernel
theorem d_Lexer_note_30 : decode y_Lexer_note.2.1 30 = .ok (.iload_n 2, 1) := by decide +kernel
theorem d_Lexer_note_31 : decode y_Lexer_note.2.1 31 = .ok (.iastore, 1) := by decide +kernel
theorem d_Lexer_note_32 : decode y_Lexer_note.2.1 32 = .ok (.aload_n 0, 1) := by decide +kernel
theorem d_Lexer_note_33 : decode y_Lexer_note.2.1 33 = .ok (.getfield 20, 3) := by decide +kernel
theorem d_Lexer_note_36 : decode y_Lexer_note.2.1 36 = .ok (.aload_n 0, 1) := by decide +kernel
theorem d_Lexer_note_37 : decode y_Lexer_note.2.1 37 = .ok (.getfield 45, 3) := by decide +kernel
theorem d_Lexer_note_40 : decode y_Lexer_note.2.1 40 = .ok (.iload_n 3, 1) := by decide +kernel
theorem d_Lexer_note_41 : decode y_Lexer_note.2.1 41 = .ok (.iastore, 1) := by decide +kernel
theorem d_Lexer_note_42 : decode y_Lexer_note.2.1 42 = .ok (.aload_n 0, 1) := by decide +kernel
theorem d_Lexer_note_43 : decode y_Lexer_note.2.1 43 = .ok (.getfield 23, 3) := by decide +kernel
theorem d_Lexer_note_46 : decode y_Lexer_note.2.1 46 = .ok (.aload_n 0, 1) := by decide +kernel
theorem d_Lexer_note_47 : decode y_Lexer_note.2.1 47 = .ok (.getfield 45, 3) := by decide +kernel
theorem d_Lexer_note_50 : decode y_Lexer_note.2.1 50 = .ok (.iload 4, 2) := by decide +kernel
theorem d_Lexer_note_52 : decode y_Lexer_note.2.1 52 = .ok (.bastore, 1) := by decide +kernel
theorem d_Lexer_note_53 : decode y_Lexer_note.2.1 53 = .ok (.aload_n 0, 1) := by decide +kernel
theorem d_Lexer_note_54 : decode y_Lexer_note.2.1 54 = .ok (.dup, 1) := by decide +kernel
theorem d_Lexer_note_55 : decode y_Lexer_note.2.1 55 = .ok (.getfield 45, 3) := by decide +kernel
theorem d_Lexer_note_58 : decode y_Lexer_note.2.1 58 = .ok (.iconst 1, 1) := by decide +kernel
theorem d_Lexer_note_59 : decode y_Lexer_note.2.1 59 = .ok (.iadd, 1) := by decide +kernel
theorem d_Lexer_note_60 : decode y_Lexer_note.2.1 60 = .ok (.putfield 45, 3) := by decide +kernel
theorem d_Lexer_note_63 : decode y_Lexer_note.2.1 63 = .ok (.return_, 1) := by decide +kernel
def y_Lexer_behindNumber : ab_Y := (⟨"WorldEngine$Lexer", "behindNumber", "(I)I"⟩, prog_3_method_12_code, 13, (some FieldType.int), [])
theorem d_Lexer_behindNumber_0 : decode y_Lexer_behindNumber.2.1 0 = .ok (.lconst 0, 1) := by decide +kernel
theorem d_Lexer_behindNumber_1 : decode y_Lexer_behindNumber.2.1 1 = .ok (.lstore_n 2, 1) := by decide +kernel
theorem d_Lexer_behindNumber_2 : decode y_Lexer_behindNumber.2.1 2 = .ok (.iload_n 1, 1) := by decide +kernel
theorem d_Lexer_behindNumber_3 : decode y_Lexer_behindNumber.2.1 3 = .ok (.istore 4, 2) := by decide +kernel
theorem d_Lexer_behindNumber_5 : decode y_Lexer_behindNumber.2.1 5 = .ok (.iload 4, 2) := by decide +kernel
theorem d_Lexer_behindNumber_7 : decode y_Lexer_behindNumber.2.1 7 = .ok (.aload_n 0, 1) := by decide +kernel
theorem d_Lexer_behindNumber_8 : decode y_Lexer_behindNumber.2.1 8 = .ok (.getfield 42, 3) := by decide +kernel
theorem d_Lexer_behindNumber_11 : decode y_Lexer_behindNumber.2.1 11 = .ok (.if_icmp .ge 45, 3) := by decide +kernel
theorem d_Lexer_behindNumber_14 : decode y_Lexer_behindNumber.2.1 14 = .ok (.aload_n 0, 1) := by decide +kernel
theorem d_Lexer_behindNumber_15 : decode y_Lexer_behindNumber.2.1 15 = .ok (.iload 4, 2) := by decide +kernel
theorem d_Lexer_behindNumber_17 : decode y_Lexer_behindNumber.2.1 17 = .ok (.invokevirtual 74, 3) := by decide +kernel
theorem d_Lexer_behindNumber_20 : decode y_Lexer_behindNumber.2.1 20 = .ok (.invokestatic 84, 3) := by decide +kernel
theorem d_Lexer_behindNumber_23 : decode y_Lexer_behindNumber.2.1 23 = .ok (.ifCond .eq 33, 3) := by decide +kernel
theorem d_Lexer_behindNumber_26 : decode y_Lexer_behindNumber.2.1 26 = .ok (.lload_n 2, 1) := by decide +kernel
theorem d_Lexer_behindNumber_27 : decode y_Lexer_behindNumber.2.1 27 = .ok (.ldc2_w 97, 3) := by decide +kernel
theorem d_Lexer_behindNumber_30 : decode y_Lexer_behindNumber.2.1 30 = .ok (.lmul, 1) := by decide +kernel
theorem d_Lexer_behindNumber_31 : decode y_Lexer_behindNumber.2.1 31 = .ok (.aload_n 0, 1) := by decide +kernel
theorem d_Lexer_behindNumber_32 : decode y_Lexer_behindNumber.2.1 32 = .ok (.iload 4, 2) := by decide +kernel
theorem d_Lexer_behindNumber_34 : decode y_Lexer_behindNumber.2.1 34 = .ok (.invokevirtual 74, 3) := by decide +kernel
theorem d_Lexer_behindNumber_37 : decode y_Lexer_behindNumber.2.1 37 = .ok (.i2l, 1) := by decide +kernel
theorem d_Lexer_behindNumber_38 : decode y_Lexer_behindNumber.2.1 38 = .ok (.ladd, 1) := by decide +kernel
theorem d_Lexer_behindNumber_39 : decode y_Lexer_behindNumber.2.1 39 = .ok (.ldc2_w 99, 3) := by decide +kernel
theorem d_Lexer_behindNumber_42 : decode y_Lexer_behindNumber.2.1 42 = .ok (.lsub, 1) := by decide +kernel
theorem d_Lexer_behindNumber_43 : decode y_Lexer_behindNumber.2.1 43 = .ok (.ldc2_w 101, 3) := by decide +kernel
theorem d_Lexer_behindNumber_46 : decode y_Lexer_behindNumber.2.1 46 = .ok (.invokestatic 103, 3) := by decide +kernel
theorem d_Lexer_behindNumber_49 : decode y_Lexer_behindNumber.2.1 49 = .ok (.lstore_n 2, 1) := by decide +kernel
theorem d_Lexer_behindNumber_50 : decode y_Lexer_behindNumber.2.1 50 = .ok (.iinc 4 1, 3) := by decide +kernel
theorem d_Lexer_behindNumber_53 : decode y_Lexer_behindNumber.2.1 53 = .ok (.goto (-48), 3) := by decide +kernel
theorem d_Lexer_behindNumber_56 : decode y_Lexer_behindNumber.2.1 56 = .ok (.aload_n 0, 1) := by decide +kernel
theorem d_Lexer_behindNumber_57 : decode y_Lexer_behindNumber.2.1 57 = .ok (.iload 4, 2) := by decide +kernel
theorem d_Lexer_behindNumber_59 : decode y_Lexer_behindNumber.2.1 59 = .ok (.invokevirtual 74, 3) := by decide +kernel
theorem d_Lexer_behindNumber_62 : decode y_Lexer_behindNumber.2.1 62 = .ok (.bipush 46, 2) := by decide +kernel
theorem d_Lexer_behindNumber_64 : decode y_Lexer_behindNumber.2.1 64 = .ok (.if_icmp .ne 17, 3) := by decide +kernel
theorem d_Lexer_behindNumber_67 : decode y_Lexer_behindNumber.2.1 67 = .ok (.aload_n 0, 1) := by decide +kernel
theorem d_Lexer_behindNumber_68 : decode y_Lexer_behindNumber.2.1 68 = .ok (.iload 4, 2) := by decide +kernel
theorem d_Lexer_behindNumber_70 : decode y_Lexer_behindNumber.2.1 70 = .ok (.iconst 1, 1) := by decide +kernel
theorem d_Lexer_behindNumber_71 : decode y_Lexer_behindNumber.2.1 71 = .ok (.iadd, 1) := by decide +kernel
theorem d_Lexer_behindNumber_72 : decode y_Lexer_behindNumber.2.1 72 = .ok (.invokevirtual 74, 3) := by decide +kernel
theorem d_Lexer_behindNumber_75 : decode y_Lexer_behindNumber.2.1 75 = .ok (.invokestatic 84, 3) := by decide +kernel
theorem d_Lexer_behindNumber_78 : decode y_Lexer_behindNumber.2.1 78 = .ok (.ifCond .ne 40, 3) := by decide +kernel
theorem d_Lexer_behindNumber_81 : decode y_Lexer_behindNumber.2.1 81 = .ok (.lload_n 2, 1) := by decide +kernel
theorem d_Lexer_behindNumber_82 : decode y_Lexer_behindNumber.2.1 82 = .ok (.ldc2_w 111, 3) := by decide +kernel
theorem d_Lexer_behindNumber_85 : decode y_Lexer_behindNumber.2.1 85 = .ok (.lcmp, 1) := by decide +kernel
theorem d_Lexer_behindNumber_86 : decode y_Lexer_behindNumber.2.1 86 = .ok (.ifCond .le 7, 3) := by decide +kernel
theorem d_Lexer_behindNumber_89 : decode y_Lexer_behindNumber.2.1 89 = .ok (.iconst 1, 1) := by decide +kernel
theorem d_Lexer_behindNumber_90 : decode y_Lexer_behindNumber.2.1 90 = .ok (.goto 4, 3) := by decide +kernel
theorem d_Lexer_behindNumber_93 : decode y_Lexer_behindNumber.2.1 93 = .ok (.iconst 0, 1) := by decide +kernel
theorem d_Lexer_behindNumber_94 : decode y_Lexer_behindNumber.2.1 94 = .ok (.istore 5, 2) := by decide +kernel
theorem d_Lexer_behindNumber_96 : decode y_Lexer_behindNumber.2.1 96 = .ok (.aload_n 0, 1) := by decide +kernel
theorem d_Lexer_behindNumber_97 : decode y_Lexer_behindNumber.2.1 97 = .ok (.iconst 3, 1) := by decide +kernel
theorem d_Lexer_behindNumber_98 : decode y_Lexer_behindNumber.2.1 98 = .ok (.iload_n 1, 1) := by decide +kernel
theorem d_Lexer_behindNumber_99 : decode y_Lexer_behindNumber.2.1 99 = .ok (.iload 5, 2) := by decide +kernel
theorem d_Lexer_behindNumber_101 : decode y_Lexer_behindNumber.2.1 101 = .ok (.ifCond .eq 7, 3) := by decide +kernel
theorem d_Lexer_behindNumber_104 : decode y_Lexer_behindNumber.2.1 104 = .ok (.iconst 0, 1) := by decide +kernel
theorem d_Lexer_behindNumber_105 : decode y_Lexer_behindNumber.2.1 105 = .ok (.goto 5, 3) := by decide +kernel
theorem d_Lexer_behindNumber_108 : decode y_Lexer_behindNumber.2.1 108 = .ok (.lload_n 2, 1) := by decide +kernel
theorem d_Lexer_behindNumber_109 : decode y_Lexer_behindNumber.2.1 109 = .ok (.l2i, 1) := by decide +kernel
theorem d_Lexer_behindNumber_110 : decode y_Lexer_behindNumber.2.1 110 = .ok (.iload 5, 2) := by decide +kernel
theorem d_Lexer_behindNumber_112 : decode y_Lexer_behindNumber.2.1 112 = .ok (.invokevirtual 61, 3) := by decide +kernel
theorem d_Lexer_behindNumber_115 : decode y_Lexer_behindNumber.2.1 115 = .ok (.iload 4, 2) := by decide +kernel
theorem d_Lexer_behindNumber_117 : decode y_Lexer_behindNumber.2.1 117 = .ok (.ireturn, 1) := by decide +kernel
theorem d_Lexer_behindNumber_118 : decode y_Lexer_behindNumber.2.1 118 = .ok (.lconst 0, 1) := by decide +kernel
theorem d_Lexer_behindNumber_119 : decode y_Lexer_behindNumber.2.1 119 = .ok (.lstore 5, 2) := by decide +kernel
theorem d_Lexer_behindNumber_121 : decode y_Lexer_behindNumber.2.1 121 = .ok (.lconst 1, 1) := by decide +kernel
theorem d_Lexer_behindNumber_122 : decode y_Lexer_behindNumber.2.1 122 = .ok (.lstore 7, 2) := by decide +kernel
theorem d_Lexer_behindNumber_124 : decode y_Lexer_behindNumber.2.1 124 = .ok (.iconst 0, 1) := by decide +kernel
theorem d_Lexer_behindNumber_125 : decode y_Lexer_behindNumber.2.1 125 = .ok (.istore 9, 2) := by decide +kernel
theorem d_Lexer_behindNumber_127 : decode y_Lexer_behindNumber.2.1 127 = .ok (.iinc 4 1, 3) := by decide +kernel
theorem d_Lexer_behindNumber_130 : decode y_Lexer_behindNumber.2.1 130 = .ok (.iload 4, 2) := by decide +kernel
theorem d_Lexer_behindNumber_132 : decode y_Lexer_behindNumber.2.1 132 = .ok (.aload_n 0, 1) := by decide +kernel
theorem d_Lexer_behindNumber_133 : decode y_Lexer_behindNumber.2.1 133 = .ok (.getfield 42, 3) := by decide +kernel
theorem d_Lexer_behindNumber_136 : decode y_Lexer_behindNumber.2.1 136 = .ok (.if_icmp .ge 58, 3) := by decide +kernel
theorem d_Lexer_behindNumber_139 : decode y_Lexer_behindNumber.2.1 139 = .ok (.aload_n 0, 1) := by decide +kernel
theorem d_Lexer_behindNumber_140 : decode y_Lexer_behindNumber.2.1 140 = .ok (.iload 4, 2) := by decide +kernel
theorem d_Lexer_behindNumber_142 : decode y_Lexer_behindNumber.2.1 142 = .ok (.invokevirtual 74, 3) := by decide +kernel
theorem d_Lexer_behindNumber_145 : decode y_Lexer_behindNumber.2.1 145 = .ok (.invokestatic 84, 3) := by decide +kernel
theorem d_Lexer_behindNumber_148 : decode y_Lexer_behindNumber.2.1 148 = .ok (.ifCond .eq 46, 3) := by decide +kernel
theorem d_Lexer_behindNumber_151 : decode y_Lexer_behindNumber.2.1 151 = .ok (.iinc 9 1, 3) := by decide +kernel
theorem d_Lexer_behindNumber_154 : decode y_Lexer_behindNumber.2.1 154 = .ok (.iload 9, 2) := by decide +kernel
theorem d_Lexer_behindNumber_156 : decode y_Lexer_behindNumber.2.1 156 = .ok (.iconst 4, 1) := by decide +kernel
theorem d_Lexer_behindNumber_157 : decode y_Lexer_behindNumber.2.1 157 = .ok (.if_icmp .gt 31, 3) := by decide +kernel
theorem d_Lexer_behindNumber_160 : decode y_Lexer_behindNumber.2.1 160 = .ok (.lload 5, 2) := by decide +kernel
theorem d_Lexer_behindNumber_162 : decode y_Lexer_behindNumber.2.1 162 = .ok (.ldc2_w 97, 3) := by decide +kernel
theorem d_Lexer_behindNumber_165 : decode y_Lexer_behindNumber.2.1 165 = .ok (.lmul, 1) := by decide +kernel
theorem d_Lexer_behindNumber_166 : decode y_Lexer_behindNumber.2.1 166 = .ok (.aload_n 0, 1) := by decide +kernel
theorem d_Lexer_behindNumber_167 : decode y_Lexer_behindNumber.2.1 167 = .ok (.iload 4, 2) := by decide +kernel
theorem d_Lexer_behindNumber_169 : decode y_Lexer_behindNumber.2.1 169 = .ok (.invokevirtual 74, 3) := by decide +kernel
theorem d_Lexer_behindNumber_172 : decode y_Lexer_behindNumber.2.1 172 = .ok (.i2l, 1) := by decide +kernel
theorem d_Lexer_behindNumber_173 : decode y_Lexer_behindNumber.2.1 173 = .ok (.ladd, 1) := by decide +kernel
theorem d_Lexer_behindNumber_174 : decode y_Lexer_behindNumber.2.1 174 = .ok (.ldc2_w 99, 3) := by decide +kernel
theorem d_Lexer_behindNumber_177 : decode y_Lexer_behindNumber.2.1 177 = .ok (.lsub, 1) := by decide +kernel
theorem d_Lexer_behindNumber_178 : decode y_Lexer_behindNumber.2.1 178 = .ok (.lstore 5, 2) := by decide +kernel
theorem d_Lexer_behindNumber_180 : decode y_Lexer_behindNumber.2.1 180 = .ok (.lload 7, 2) := by decide +kernel
theorem d_Lexer_behindNumber_182 : decode y_Lexer_behindNumber.2.1 182 = .ok (.ldc2_w 97, 3) := by decide +kernel
theorem d_Lexer_behindNumber_185 : decode y_Lexer_behindNumber.2.1 185 = .ok (.lmul, 1) := by decide +kernel
theorem d_Lexer_behindNumber_186 : decode y_Lexer_behindNumber.2.1 186 = .ok (.lstore 7, 2) := by decide +kernel
theorem d_Lexer_behindNumber_188 : decode y_Lexer_behindNumber.2.1 188 = .ok (.iinc 4 1, 3) := by decide +kernel
theorem d_Lexer_behindNumber_191 : decode y_Lexer_behindNumber.2.1 191 = .ok (.goto (-61), 3) := by decide +kernel
theorem d_Lexer_behindNumber_194 : decode y_Lexer_behindNumber.2.1 194 = .ok (.lload_n 2, 1) := by decide +kernel
theorem d_Lexer_behindNumber_195 : decode y_Lexer_behindNumber.2.1 195 = .ok (.ldc2_w 113, 3) := by decide +kernel
theorem d_Lexer_behindNumber_198 : decode y_Lexer_behindNumber.2.1 198 = .ok (.lcmp, 1) := by decide +kernel
theorem d_Lexer_behindNumber_199 : decode y_Lexer_behindNumber.2.1 199 = .ok (.ifCond .gt 9, 3) := by decide +kernel
theorem d_Lexer_behindNumber_202 : decode y_Lexer_behindNumber.2.1 202 = .ok (.iload 9, 2) := by decide +kernel
theorem d_Lexer_behindNumber_204 : decode y_Lexer_behindNumber.2.1 204 = .ok (.iconst 4, 1) := by decide +kernel
theorem d_Lexer_behindNumber_205 : decode y_Lexer_behindNumber.2.1 205 = .ok (.if_icmp .le 7, 3) := by decide +kernel
theorem d_Lexer_behindNumber_208 : decode y_Lexer_behindNumber.2.1 208 = .ok (.iconst 1, 1) := by decide +kernel
theorem d_Lexer_behindNumber_209 : decode y_Lexer_behindNumber.2.1 209 = .ok (.goto 4, 3) := by decide +kernel
theorem d_Lexer_behindNumber_212 : decode y_Lexer_behindNumber.2.1 212 = .ok (.iconst 0, 1) := by decide +kernel
theorem d_Lexer_behindNumber_213 : decode y_Lexer_behindNumber.2.1 213 = .ok (.istore 10, 2) := by decide +kernel
theorem d_Lexer_behindNumber_215 : decode y_Lexer_behindNumber.2.1 215 = .ok (.lload_n 2, 1) := by decide +kernel
theorem d_Lexer_behindNumber_216 : decode y_Lexer_behindNumber.2.1 216 = .ok (.bipush 16, 2) := by decide +kernel
theorem d_Lexer_behindNumber_218 : decode y_Lexer_behindNumber.2.1 218 = .ok (.lshl, 1) := by decide +kernel
theorem d_Lexer_behindNumber_219 : decode y_Lexer_behindNumber.2.1 219 = .ok (.lload 5, 2) := by decide +kernel
theorem d_Lexer_behindNumber_221 : decode y_Lexer_behindNumber.2.1 221 = .ok (.ldc2_w 115, 3) := by decide +kernel
theorem d_Lexer_behindNumber_224 : decode y_Lexer_behindNumber.2.1 224 = .ok (.lmul, 1) := by decide +kernel
theorem d_Lexer_behindNumber_225 : decode y_Lexer_behindNumber.2.1 225 = .ok (.lload 7, 2) := by decide +kernel
theorem d_Lexer_behindNumber_227 : decode y_Lexer_behindNumber.2.1 227 = .ok (.ldc2_w 117, 3) := by decide +kernel
theorem d_Lexer_behindNumber_230 : decode y_Lexer_behindNumber.2.1 230 = .ok (.ldiv, 1) := by decide +kernel
theorem d_Lexer_behindNumber_231 : decode y_Lexer_behindNumber.2.1 231 = .ok (.ladd, 1) := by decide +kernel
theorem d_Lexer_behindNumber_232 : decode y_Lexer_behindNumber.2.1 232 = .ok (.lconst 1, 1) := by decide +kernel
theorem d_Lexer_behindNumber_233 : decode y_Lexer_behindNumber.2.1 233 = .ok (.lload 7, 2) := by decide +kernel
theorem d_Lexer_behindNumber_235 : decode y_Lexer_behindNumber.2.1 235 = .ok (.invokestatic 119, 3) := by decide +kernel
theorem d_Lexer_behindNumber_238 : decode y_Lexer_behindNumber.2.1 238 = .ok (.ldiv, 1) := by decide +kernel
theorem d_Lexer_behindNumber_239 : decode y_Lexer_behindNumber.2.1 239 = .ok (.ladd, 1) := by decide +kernel
theorem d_Lexer_behindNumber_240 : decode y_Lexer_behindNumber.2.1 240 = .ok (.lstore 11, 2) := by decide +kernel
theorem d_Lexer_behindNumber_242 : decode y_Lexer_behindNumber.2.1 242 = .ok (.aload_n 0, 1) := by decide +kernel
theorem d_Lexer_behindNumber_243 : decode y_Lexer_behindNumber.2.1 243 = .ok (.iconst 4, 1) := by decide +kernel
theorem d_Lexer_behindNumber_244 : decode y_Lexer_behindNumber.2.1 244 = .ok (.iload_n 1, 1) := by decide +kernel
theorem d_Lexer_behindNumber_245 : decode y_Lexer_behindNumber.2.1 245 = .ok (.iload 10, 2) := by decide +kernel
theorem d_Lexer_behindNumber_247 : decode y_Lexer_behindNumber.2.1 247 = .ok (.ifCond .eq 7, 3) := by decide +kernel
theorem d_Lexer_behindNumber_250 : decode y_Lexer_behindNumber.2.1 250 = .ok (.iconst 0, 1) := by decide +kernel
theorem d_Lexer_behindNumber_251 : decode y_Lexer_behindNumber.2.1 251 = .ok (.goto 6, 3) := by decide +kernel
theorem d_Lexer_behindNumber_254 : decode y_Lexer_behindNumber.2.1 254 = .ok (.lload 11, 2) := by decide +kernel
theorem d_Lexer_behindNumber_256 : decode y_Lexer_behindNumber.2.1 256 = .ok (.l2i, 1) := by decide +kernel
theorem d_Lexer_behindNumber_257 : decode y_Lexer_behindNumber.2.1 257 = .ok (.iload 10, 2) := by decide +kernel
theorem d_Lexer_behindNumber_259 : decode y_Lexer_behindNumber.2.1 259 = .ok (.invokevirtual 61, 3) := by decide +kernel
theorem d_Lexer_behindNumber_262 : decode y_Lexer_behindNumber.2.1 262 = .ok (.iload 4, 2) := by decide +kernel
theorem d_Lexer_behindNumber_264 : decode y_Lexer_behindNumber.2.1 264 = .ok (.ireturn, 1) := by decide +kernel
def y_Lexer_behindSign : ab_Y := (⟨"WorldEngine$Lexer", "behindSign", "(I)I"⟩, prog_3_method_13_code, 5, (some FieldType.int), [])
theorem d_Lexer_behindSign_0 : decode y_Lexer_behindSign.2.1 0 = .ok (.aload_n 0, 1) := by decide +kernel
theorem d_Lexer_behindSign_1 : decode y_Lexer_behindSign.2.1 1 = .ok (.iload_n 1, 1) := by decide +kernel
theorem d_Lexer_behindSign_2 : decode y_Lexer_behindSign.2.1 2 = .ok (.invokevirtual 74, 3) := by decide +kernel
theorem d_Lexer_behindSign_5 : decode y_Lexer_behindSign.2.1 5 = .ok (.istore_n 2, 1) := by decide +kernel
theorem d_Lexer_behindSign_6 : decode y_Lexer_behindSign.2.1 6 = .ok (.iload_n 1, 1) := by decide +kernel
theorem d_Lexer_behindSign_7 : decode y_Lexer_behindSign.2.1 7 = .ok (.iconst 1, 1) := by decide +kernel
theorem d_Lexer_behindSign_8 : decode y_Lexer_behindSign.2.1 8 = .ok (.iadd, 1) := by decide +kernel
theorem d_Lexer_behindSign_9 : decode y_Lexer_behindSign.2.1 9 = .ok (.aload_n 0, 1) := by decide +kernel
theorem d_Lexer_behindSign_10 : decode y_Lexer_behindSign.2.1 10 = .ok (.getfield 42, 3) := by decide +kernel
theorem d_Lexer_behindSign_13 : decode y_Lexer_behindSign.2.1 13 = .ok (.if_icmp .ge 13, 3) := by decide +kernel
theorem d_Lexer_behindSign_16 : decode y_Lexer_behindSign.2.1 16 = .ok (.aload_n 0, 1) := by decide +kernel
theorem d_Lexer_behindSign_17 : decode y_Lexer_behindSign.2.1 17 = .ok (.iload_n 1, 1) := by decide +kernel
theorem d_Lexer_behindSign_18 : decode y_Lexer_behindSign.2.1 18 = .ok (.iconst 1, 1) := by decide +kernel
theorem d_Lexer_behindSign_19 : decode y_Lexer_behindSign.2.1 19 = .ok (.iadd, 1) := by decide +kernel
theorem d_Lexer_behindSign_20 : decode y_Lexer_behindSign.2.1 20 = .ok (.invokevirtual 74, 3) := by decide +kernel
theorem d_Lexer_behindSign_23 : decode y_Lexer_behindSign.2.1 23 = .ok (.goto 4, 3) := by decide +kernel
theorem d_Lexer_behindSign_26 : decode y_Lexer_behindSign.2.1 26 = .ok (.iconst 0, 1) := by decide +kernel
theorem d_Lexer_behindSign_27 : decode y_Lexer_behindSign.2.1 27 = .ok (.istore_n 3, 1) := by decide +kernel
theorem d_Lexer_behindSign_28 : decode y_Lexer_behindSign.2.1 28 = .ok (.iconst 1, 1) := by decide +kernel
theorem d_Lexer_behindSign_29 : decode y_Lexer_behindSign.2.1 29 = .ok (.istore 4, 2) := by decide +kernel
theorem d_Lexer_behindSign_31 : decode y_Lexer_behindSign.2.1 31 = .ok (.iload_n 3, 1) := by decide +kernel
theorem d_Lexer_behindSign_32 : decode y_Lexer_behindSign.2.1 32 = .ok (.bipush 61, 2) := by decide +kernel
theorem d_Lexer_behindSign_34 : decode y_Lexer_behindSign.2.1 34 = .ok (.if_icmp .ne 67, 3) := by decide +kernel
theorem d_Lexer_behindSign_37 : decode y_Lexer_behindSign.2.1 37 = .ok (.iload_n 2, 1) := by decide +kernel
theorem d_Lexer_behindSign_38 : decode y_Lexer_behindSign.2.1 38 = .ok (.bipush 60, 2) := by decide +kernel
theorem d_Lexer_behindSign_40 : decode y_Lexer_behindSign.2.1 40 = .ok (.if_icmp .eq 21, 3) := by decide +kernel
theorem d_Lexer_behindSign_43 : decode y_Lexer_behindSign.2.1 43 = .ok (.iload_n 2, 1) := by decide +kernel
theorem d_Lexer_behindSign_44 : decode y_Lexer_behindSign.2.1 44 = .ok (.bipush 62, 2) := by decide +kernel
theorem d_Lexer_behindSign_46 : decode y_Lexer_behindSign.2.1 46 = .ok (.if_icmp .eq 15, 3) := by decide +kernel
theorem d_Lexer_behindSign_49 : decode y_Lexer_behindSign.2.1 49 = .ok (.iload_n 2, 1) := by decide +kernel
theorem d_Lexer_behindSign_50 : decode y_Lexer_behindSign.2.1 50 = .ok (.bipush 61, 2) := by decide +kernel
theorem d_Lexer_behindSign_52 : decode y_Lexer_behindSign.2.1 52 = .ok (.if_icmp .eq 9, 3) := by decide +kernel
theorem d_Lexer_behindSign_55 : decode y_Lexer_behindSign.2.1 55 = .ok (.iload_n 2, 1) := by decide +kernel
theorem d_Lexer_behindSign_56 : decode y_Lexer_behindSign.2.1 56 = .ok (.bipush 33, 2) := by decide +kernel
theorem d_Lexer_behindSign_58 : decode y_Lexer_behindSign.2.1 58 = .ok (.if_icmp .ne 43, 3) := by decide +kernel
theorem d_Lexer_behindSign_61 : decode y_Lexer_behindSign.2.1 61 = .ok (.iload_n 2, 1) := by decide +kernel
theorem d_Lexer_behindSign_62 : decode y_Lexer_behindSign.2.1 62 = .ok (.bipush 60, 2) := by decide +kernel
theorem d_Lexer_behindSign_64 : decode y_Lexer_behindSign.2.1 64 = .ok (.if_icmp .ne 8, 3) := by decide +kernel
theorem d_Lexer_behindSign_67 : decode y_Lexer_behindSign.2.1 67 = .ok (.bipush 26, 2) := by decide +kernel
theorem d_Lexer_behindSign_69 : decode y_Lexer_behindSign.2.1 69 = .ok (.goto 27, 3) := by decide +kernel
theorem d_Lexer_behindSign_72 : decode y_Lexer_behindSign.2.1 72 = .ok (.iload_n 2, 1) := by decide +kernel
theorem d_Lexer_behindSign_73 : decode y_Lexer_behindSign.2.1 73 = .ok (.bipush 62, 2) := by decide +kernel
theorem d_Lexer_behindSign_75 : decode y_Lexer_behindSign.2.1 75 = .ok (.if_icmp .ne 8, 3) := by decide +kernel
theorem d_Lexer_behindSign_78 : decode y_Lexer_behindSign.2.1 78 = .ok (.bipush 27, 2) := by decide +kernel
theorem d_Lexer_behindSign_80 : decode y_Lexer_behindSign.2.1 80 = .ok (.goto 16, 3) := by decide +kernel
theorem d_Lexer_behindSign_83 : decode y_Lexer_behindSign.2.1 83 = .ok (.iload_n 2, 1) := by decide +kernel
theorem d_Lexer_behindSign_84 : decode y_Lexer_behindSign.2.1 84 = .ok (.bipush 61, 2) := by decide +kernel
theorem d_Lexer_behindSign_86 : decode y_Lexer_behindSign.2.1 86 = .ok (.if_icmp .ne 8, 3) := by decide +kernel
theorem d_Lexer_behindSign_89 : decode y_Lexer_behindSign.2.1 89 = .ok (.bipush 28, 2) := by decide +kernel
theorem d_Lexer_behindSign_91 : decode y_Lexer_behindSign.2.1 91 = .ok (.goto 5, 3) := by decide +kernel
theorem d_Lexer_behindSign_94 : decode y_Lexer_behindSign.2.1 94 = .ok (.bipush 29, 2) := by decide +kernel
theorem d_Lexer_behindSign_96 : decode y_Lexer_behindSign.2.1 96 = .ok (.istore 4, 2) := by decide +kernel
theorem d_Lexer_behindSign_98 : decode y_Lexer_behindSign.2.1 98 = .ok (.goto 69, 3) := by decide +kernel
theorem d_Lexer_behindSign_101 : decode y_Lexer_behindSign.2.1 101 = .ok (.iload_n 3, 1) := by decide +kernel
theorem d_Lexer_behindSign_102 : decode y_Lexer_behindSign.2.1 102 = .ok (.iload_n 2, 1) := by decide +kernel
theorem d_Lexer_behindSign_103 : decode y_Lexer_behindSign.2.1 103 = .ok (.if_icmp .ne 33, 3) := by decide +kernel
theorem d_Lexer_behindSign_106 : decode y_Lexer_behindSign.2.1 106 = .ok (.iload_n 2, 1) := by decide +kernel
theorem d_Lexer_behindSign_107 : decode y_Lexer_behindSign.2.1 107 = .ok (.bipush 38, 2) := by decide +kernel
theorem d_Lexer_behindSign_109 : decode y_Lexer_behindSign.2.1 109 = .ok (.if_icmp .eq 9, 3) := by decide +kernel
theorem d_Lexer_behindSign_112 : decode y_Lexer_behindSign.2.1 112 = .ok (.iload_n 2, 1) := by decide +kernel
theorem d_Lexer_behindSign_113 : decode y_Lexer_behindSign.2.1 113 = .ok (.bipush 124, 2) := by decide +kernel
theorem d_Lexer_behindSign_115 : decode y_Lexer_behindSign.2.1 115 = .ok (.if_icmp .ne 21, 3) := by decide +kernel
theorem d_Lexer_behindSign_118 : decode y_Lexer_behindSign.2.1 118 = .ok (.iload_n 2, 1) := by decide +kernel
theorem d_Lexer_behindSign_119 : decode y_Lexer_behindSign.2.1 119 = .ok (.bipush 38, 2) := by decide +kernel
theorem d_Lexer_behindSign_121 : decode y_Lexer_behindSign.2.1 121 = .ok (.if_icmp .ne 8, 3) := by decide +kernel
theorem d_Lexer_behindSign_124 : decode y_Lexer_behindSign.2.1 124 = .ok (.bipush 30, 2) := by decide +kernel
theorem d_Lexer_behindSign_126 : decode y_Lexer_behindSign.2.1 126 = .ok (.goto 5, 3) := by decide +kernel
theorem d_Lexer_behindSign_129 : decode y_Lexer_behindSign.2.1 129 = .ok (.bipush 31, 2) := by decide +kernel
theorem d_Lexer_behindSign_131 : decode y_Lexer_behindSign.2.1 131 = .ok (.istore 4, 2) := by decide +kernel
theorem d_Lexer_behindSign_133 : decode y_Lexer_behindSign.2.1 133 = .ok (.goto 34, 3) := by decide +kernel
theorem d_Lexer_behindSign_136 : decode y_Lexer_behindSign.2.1 136 = .ok (.ldc 122, 2) := by decide +kernel
theorem d_Lexer_behindSign_138 : decode y_Lexer_behindSign.2.1 138 = .ok (.iload_n 2, 1) := by decide +kernel
theorem d_Lexer_behindSign_139 : decode y_Lexer_behindSign.2.1 139 = .ok (.i2c, 1) := by decide +kernel
theorem d_Lexer_behindSign_140 : decode y_Lexer_behindSign.2.1 140 = .ok (.invokevirtual 124, 3) := by decide +kernel
theorem d_Lexer_behindSign_143 : decode y_Lexer_behindSign.2.1 143 = .ok (.ifCond .lt 24, 3) := by decide +kernel
theorem d_Lexer_behindSign_146 : decode y_Lexer_behindSign.2.1 146 = .ok (.aload_n 0, 1) := by decide +kernel
theorem d_Lexer_behindSign_147 : decode y_Lexer_behindSign.2.1 147 = .ok (.bipush 10, 2) := by decide +kernel
theorem d_Lexer_behindSign_149 : decode y_Lexer_behindSign.2.1 149 = .ok (.ldc 122, 2) := by decide +kernel
theorem d_Lexer_behindSign_151 : decode y_Lexer_behindSign.2.1 151 = .ok (.iload_n 2, 1) := by decide +kernel
theorem d_Lexer_behindSign_152 : decode y_Lexer_behindSign.2.1 152 = .ok (.i2c, 1) := by decide +kernel
theorem d_Lexer_behindSign_153 : decode y_Lexer_behindSign.2.1 153 = .ok (.invokevirtual 124, 3) := by decide +kernel
theorem d_Lexer_behindSign_156 : decode y_Lexer_behindSign.2.1 156 = .ok (.iadd, 1) := by decide +kernel
theorem d_Lexer_behindSign_157 : decode y_Lexer_behindSign.2.1 157 = .ok (.iload_n 1, 1) := by decide +kernel
theorem d_Lexer_behindSign_158 : decode y_Lexer_behindSign.2.1 158 = .ok (.iconst 0, 1) := by decide +kernel
theorem d_Lexer_behindSign_159 : decode y_Lexer_behindSign.2.1 159 = .ok (.iconst 0, 1) := by decide +kernel
theorem d_Lexer_behindSign_160 : decode y_Lexer_behindSign.2.1 160 = .ok (.invokevirtual 61, 3) := by decide +kernel
theorem d_Lexer_behindSign_163 : decode y_Lexer_behindSign.2.1 163 = .ok (.iload_n 1, 1) := by decide +kernel
theorem d_Lexer_behindSign_164 : decode y_Lexer_behindSign.2.1 164 = .ok (.iconst 1, 1) := by decide +kernel
theorem d_Lexer_behindSign_165 : decode y_Lexer_behindSign.2.1 165 = .ok (.iadd, 1) := by decide +kernel
theorem d_Lexer_behindSign_166 : decode y_Lexer_behindSign.2.1 166 = .ok (.ireturn, 1) := by decide +kernel
theorem d_Lexer_behindSign_167 : decode y_Lexer_behindSign.2.1 167 = .ok (.aload_n 0, 1) := by decide +kernel
theorem d_Lexer_behindSign_168 : decode y_Lexer_behindSign.2.1 168 = .ok (.iload 4, 2) := by decide +kernel
theorem d_Lexer_behindSign_170 : decode y_Lexer_behindSign.2.1 170 = .ok (.iload_n 1, 1) := by decide +kernel
theorem d_Lexer_behindSign_171 : decode y_Lexer_behindSign.2.1 171 = .ok (.iconst 0, 1) := by decide +kernel
theorem d_Lexer_behindSign_172 : decode y_Lexer_behindSign.2.1 172 = .ok (.iconst 0, 1) := by decide +kernel
theorem d_Lexer_behindSign_173 : decode y_Lexer_behindSign.2.1 173 = .ok (.invokevirtual 61, 3) := by decide +kernel
theorem d_Lexer_behindSign_176 : decode y_Lexer_behindSign.2.1 176 = .ok (.iload_n 1, 1) := by decide +kernel
theorem d_Lexer_behindSign_177 : decode y_Lexer_behindSign.2.1 177 = .ok (.iconst 2, 1) := by decide +kernel
theorem d_Lexer_behindSign_178 : decode y_Lexer_behindSign.2.1 178 = .ok (.iadd, 1) := by decide +kernel
theorem d_Lexer_behindSign_179 : decode y_Lexer_behindSign.2.1 179 = .ok (.ireturn, 1) := by decide +kernel
def y_Lexer_refuse : ab_Y := (⟨"WorldEngine$Lexer", "refuse", "(II)V"⟩, prog_3_method_16_code, 3, none, [])
theorem d_Lexer_refuse_0 : decode y_Lexer_refuse.2.1 0 = .ok (.aload_n 0, 1) := by decide +kernel
theorem d_Lexer_refuse_1 : decode y_Lexer_refuse.2.1 1 = .ok (.iload_n 1, 1) := by decide +kernel
theorem d_Lexer_refuse_2 : decode y_Lexer_refuse.2.1 2 = .ok (.putfield 48, 3) := by decide +kernel
theorem d_Lexer_refuse_5 : decode y_Lexer_refuse.2.1 5 = .ok (.aload_n 0, 1) := by decide +kernel
theorem d_Lexer_refuse_6 : decode y_Lexer_refuse.2.1 6 = .ok (.iload_n 2, 1) := by decide +kernel
theorem d_Lexer_refuse_7 : decode y_Lexer_refuse.2.1 7 = .ok (.putfield 51, 3) := by decide +kernel
theorem d_Lexer_refuse_10 : decode y_Lexer_refuse.2.1 10 = .ok (.new 127, 3) := by decide +kernel
theorem d_Lexer_refuse_13 : decode y_Lexer_refuse.2.1 13 = .ok (.dup, 1) := by decide +kernel
theorem d_Lexer_refuse_14 : decode y_Lexer_refuse.2.1 14 = .ok (.ldc 129, 2) := by decide +kernel
theorem d_Lexer_refuse_16 : decode y_Lexer_refuse.2.1 16 = .ok (.invokespecial 131, 3) := by decide +kernel
theorem d_Lexer_refuse_19 : decode y_Lexer_refuse.2.1 19 = .ok (.athrow, 1) := by decide +kernel
def y_Lexer_advance : ab_Y := (⟨"WorldEngine$Lexer", "advance", "()V"⟩, prog_3_method_15_code, 1, none, [])
theorem d_Lexer_advance_0 : decode y_Lexer_advance.2.1 0 = .ok (.aload_n 0, 1) := by decide +kernel
theorem d_Lexer_advance_1 : decode y_Lexer_advance.2.1 1 = .ok (.getfield 65, 3) := by decide +kernel
theorem d_Lexer_advance_4 : decode y_Lexer_advance.2.1 4 = .ok (.iconst 1, 1) := by decide +kernel
theorem d_Lexer_advance_5 : decode y_Lexer_advance.2.1 5 = .ok (.iadd, 1) := by decide +kernel
theorem d_Lexer_advance_6 : decode y_Lexer_advance.2.1 6 = .ok (.aload_n 0, 1) := by decide +kernel
theorem d_Lexer_advance_7 : decode y_Lexer_advance.2.1 7 = .ok (.getfield 45, 3) := by decide +kernel
theorem d_Lexer_advance_10 : decode y_Lexer_advance.2.1 10 = .ok (.if_icmp .ge 39, 3) := by decide +kernel
theorem d_Lexer_advance_13 : decode y_Lexer_advance.2.1 13 = .ok (.aload_n 0, 1) := by decide +kernel
theorem d_Lexer_advance_14 : decode y_Lexer_advance.2.1 14 = .ok (.dup, 1) := by decide +kernel
theorem d_Lexer_advance_15 : decode y_Lexer_advance.2.1 15 = .ok (.getfield 65, 3) := by decide +kernel
theorem d_Lexer_advance_18 : decode y_Lexer_advance.2.1 18 = .ok (.iconst 1, 1) := by decide +kernel
theorem d_Lexer_advance_19 : decode y_Lexer_advance.2.1 19 = .ok (.iadd, 1) := by decide +kernel
theorem d_Lexer_advance_20 : decode y_Lexer_advance.2.1 20 = .ok (.putfield 65, 3) := by decide +kernel
theorem d_Lexer_advance_23 : decode y_Lexer_advance.2.1 23 = .ok (.aload_n 0, 1) := by decide +kernel
theorem d_Lexer_advance_24 : decode y_Lexer_advance.2.1 24 = .ok (.aload_n 0, 1) := by decide +kernel
theorem d_Lexer_advance_25 : decode y_Lexer_advance.2.1 25 = .ok (.getfield 13, 3) := by decide +kernel
theorem d_Lexer_advance_28 : decode y_Lexer_advance.2.1 28 = .ok (.aload_n 0, 1) := by decide +kernel
theorem d_Lexer_advance_29 : decode y_Lexer_advance.2.1 29 = .ok (.getfield 65, 3) := by decide +kernel
theorem d_Lexer_advance_32 : decode y_Lexer_advance.2.1 32 = .ok (.iaload, 1) := by decide +kernel
theorem d_Lexer_advance_33 : decode y_Lexer_advance.2.1 33 = .ok (.putfield 68, 3) := by decide +kernel
theorem d_Lexer_advance_36 : decode y_Lexer_advance.2.1 36 = .ok (.aload_n 0, 1) := by decide +kernel
theorem d_Lexer_advance_37 : decode y_Lexer_advance.2.1 37 = .ok (.aload_n 0, 1) := by decide +kernel
theorem d_Lexer_advance_38 : decode y_Lexer_advance.2.1 38 = .ok (.getfield 17, 3) := by decide +kernel
theorem d_Lexer_advance_41 : decode y_Lexer_advance.2.1 41 = .ok (.aload_n 0, 1) := by decide +kernel
theorem d_Lexer_advance_42 : decode y_Lexer_advance.2.1 42 = .ok (.getfield 65, 3) := by decide +kernel
theorem d_Lexer_advance_45 : decode y_Lexer_advance.2.1 45 = .ok (.iaload, 1) := by decide +kernel
theorem d_Lexer_advance_46 : decode y_Lexer_advance.2.1 46 = .ok (.putfield 71, 3) := by decide +kernel
theorem d_Lexer_advance_49 : decode y_Lexer_advance.2.1 49 = .ok (.return_, 1) := by decide +kernel
def y_Lexer_takeName : ab_Y := (⟨"WorldEngine$Lexer", "takeName", "()Ljava/lang/String;"⟩, prog_3_method_18_code, 3, (some (FieldType.object "java/lang/String")), [])
theorem d_Lexer_takeName_0 : decode y_Lexer_takeName.2.1 0 = .ok (.aload_n 0, 1) := by decide +kernel
theorem d_Lexer_takeName_1 : decode y_Lexer_takeName.2.1 1 = .ok (.getfield 68, 3) := by decide +kernel
theorem d_Lexer_takeName_4 : decode y_Lexer_takeName.2.1 4 = .ok (.iconst 2, 1) := by decide +kernel
theorem d_Lexer_takeName_5 : decode y_Lexer_takeName.2.1 5 = .ok (.if_icmp .ne 15, 3) := by decide +kernel
theorem d_Lexer_takeName_8 : decode y_Lexer_takeName.2.1 8 = .ok (.aload_n 0, 1) := by decide +kernel
theorem d_Lexer_takeName_9 : decode y_Lexer_takeName.2.1 9 = .ok (.getfield 23, 3) := by decide +kernel
theorem d_Lexer_takeName_12 : decode y_Lexer_takeName.2.1 12 = .ok (.aload_n 0, 1) := by decide +kernel
theorem d_Lexer_takeName_13 : decode y_Lexer_takeName.2.1 13 = .ok (.getfield 65, 3) := by decide +kernel
theorem d_Lexer_takeName_16 : decode y_Lexer_takeName.2.1 16 = .ok (.baload, 1) := by decide +kernel
theorem d_Lexer_takeName_17 : decode y_Lexer_takeName.2.1 17 = .ok (.ifCond .eq 38, 3) := by decide +kernel
theorem d_Lexer_takeName_20 : decode y_Lexer_takeName.2.1 20 = .ok (.aload_n 0, 1) := by decide +kernel
theorem d_Lexer_takeName_21 : decode y_Lexer_takeName.2.1 21 = .ok (.aload_n 0, 1) := by decide +kernel
theorem d_Lexer_takeName_22 : decode y_Lexer_takeName.2.1 22 = .ok (.getfield 68, 3) := by decide +kernel
theorem d_Lexer_takeName_25 : decode y_Lexer_takeName.2.1 25 = .ok (.iconst 2, 1) := by decide +kernel
theorem d_Lexer_takeName_26 : decode y_Lexer_takeName.2.1 26 = .ok (.if_icmp .eq 7, 3) := by decide +kernel
theorem d_Lexer_takeName_29 : decode y_Lexer_takeName.2.1 29 = .ok (.iconst 1, 1) := by decide +kernel
theorem d_Lexer_takeName_30 : decode y_Lexer_takeName.2.1 30 = .ok (.goto 4, 3) := by decide +kernel
theorem d_Lexer_takeName_33 : decode y_Lexer_takeName.2.1 33 = .ok (.iconst 2, 1) := by decide +kernel
theorem d_Lexer_takeName_34 : decode y_Lexer_takeName.2.1 34 = .ok (.putfield 48, 3) := by decide +kernel
theorem d_Lexer_takeName_37 : decode y_Lexer_takeName.2.1 37 = .ok (.aload_n 0, 1) := by decide +kernel
theorem d_Lexer_takeName_38 : decode y_Lexer_takeName.2.1 38 = .ok (.aload_n 0, 1) := by decide +kernel
theorem d_Lexer_takeName_39 : decode y_Lexer_takeName.2.1 39 = .ok (.getfield 71, 3) := by decide +kernel
theorem d_Lexer_takeName_42 : decode y_Lexer_takeName.2.1 42 = .ok (.putfield 51, 3) := by decide +kernel
theorem d_Lexer_takeName_45 : decode y_Lexer_takeName.2.1 45 = .ok (.new 127, 3) := by decide +kernel
theorem d_Lexer_takeName_48 : decode y_Lexer_takeName.2.1 48 = .ok (.dup, 1) := by decide +kernel
theorem d_Lexer_takeName_49 : decode y_Lexer_takeName.2.1 49 = .ok (.ldc 141, 2) := by decide +kernel
theorem d_Lexer_takeName_51 : decode y_Lexer_takeName.2.1 51 = .ok (.invokespecial 131, 3) := by decide +kernel
theorem d_Lexer_takeName_54 : decode y_Lexer_takeName.2.1 54 = .ok (.athrow, 1) := by decide +kernel
theorem d_Lexer_takeName_55 : decode y_Lexer_takeName.2.1 55 = .ok (.iconst 0, 1) := by decide +kernel
theorem d_Lexer_takeName_56 : decode y_Lexer_takeName.2.1 56 = .ok (.bipush 12, 2) := by decide +kernel
theorem d_Lexer_takeName_58 : decode y_Lexer_takeName.2.1 58 = .ok (.aload_n 0, 1) := by decide +kernel
theorem d_Lexer_takeName_59 : decode y_Lexer_takeName.2.1 59 = .ok (.getfield 20, 3) := by decide +kernel
theorem d_Lexer_takeName_62 : decode y_Lexer_takeName.2.1 62 = .ok (.aload_n 0, 1) := by decide +kernel
theorem d_Lexer_takeName_63 : decode y_Lexer_takeName.2.1 63 = .ok (.getfield 65, 3) := by decide +kernel
theorem d_Lexer_takeName_66 : decode y_Lexer_takeName.2.1 66 = .ok (.iaload, 1) := by decide +kernel
theorem d_Lexer_takeName_67 : decode y_Lexer_takeName.2.1 67 = .ok (.invokestatic 143, 3) := by decide +kernel
theorem d_Lexer_takeName_70 : decode y_Lexer_takeName.2.1 70 = .ok (.invokestatic 145, 3) := by decide +kernel
theorem d_Lexer_takeName_73 : decode y_Lexer_takeName.2.1 73 = .ok (.newarray .char, 2) := by decide +kernel
theorem d_Lexer_takeName_75 : decode y_Lexer_takeName.2.1 75 = .ok (.astore_n 1, 1) := by decide +kernel
theorem d_Lexer_takeName_76 : decode y_Lexer_takeName.2.1 76 = .ok (.iconst 0, 1) := by decide +kernel
theorem d_Lexer_takeName_77 : decode y_Lexer_takeName.2.1 77 = .ok (.istore_n 2, 1) := by decide +kernel
theorem d_Lexer_takeName_78 : decode y_Lexer_takeName.2.1 78 = .ok (.iload_n 2, 1) := by decide +kernel
theorem d_Lexer_takeName_79 : decode y_Lexer_takeName.2.1 79 = .ok (.aload_n 1, 1) := by decide +kernel
theorem d_Lexer_takeName_80 : decode y_Lexer_takeName.2.1 80 = .ok (.arraylength, 1) := by decide +kernel
theorem d_Lexer_takeName_81 : decode y_Lexer_takeName.2.1 81 = .ok (.if_icmp .ge 41, 3) := by decide +kernel
theorem d_Lexer_takeName_84 : decode y_Lexer_takeName.2.1 84 = .ok (.aload_n 0, 1) := by decide +kernel
theorem d_Lexer_takeName_85 : decode y_Lexer_takeName.2.1 85 = .ok (.getfield 71, 3) := by decide +kernel
theorem d_Lexer_takeName_88 : decode y_Lexer_takeName.2.1 88 = .ok (.iload_n 2, 1) := by decide +kernel
theorem d_Lexer_takeName_89 : decode y_Lexer_takeName.2.1 89 = .ok (.iadd, 1) := by decide +kernel
theorem d_Lexer_takeName_90 : decode y_Lexer_takeName.2.1 90 = .ok (.aload_n 0, 1) := by decide +kernel
theorem d_Lexer_takeName_91 : decode y_Lexer_takeName.2.1 91 = .ok (.getfield 42, 3) := by decide +kernel
theorem d_Lexer_takeName_94 : decode y_Lexer_takeName.2.1 94 = .ok (.if_icmp .ge 28, 3) := by decide +kernel
theorem d_Lexer_takeName_97 : decode y_Lexer_takeName.2.1 97 = .ok (.aload_n 1, 1) := by decide +kernel
theorem d_Lexer_takeName_98 : decode y_Lexer_takeName.2.1 98 = .ok (.iload_n 2, 1) := by decide +kernel
theorem d_Lexer_takeName_99 : decode y_Lexer_takeName.2.1 99 = .ok (.aload_n 0, 1) := by decide +kernel
theorem d_Lexer_takeName_100 : decode y_Lexer_takeName.2.1 100 = .ok (.getfield 9, 3) := by decide +kernel
theorem d_Lexer_takeName_103 : decode y_Lexer_takeName.2.1 103 = .ok (.aload_n 0, 1) := by decide +kernel
theorem d_Lexer_takeName_104 : decode y_Lexer_takeName.2.1 104 = .ok (.getfield 71, 3) := by decide +kernel
theorem d_Lexer_takeName_107 : decode y_Lexer_takeName.2.1 107 = .ok (.iload_n 2, 1) := by decide +kernel
theorem d_Lexer_takeName_108 : decode y_Lexer_takeName.2.1 108 = .ok (.iadd, 1) := by decide +kernel
theorem d_Lexer_takeName_109 : decode y_Lexer_takeName.2.1 109 = .ok (.baload, 1) := by decide +kernel
theorem d_Lexer_takeName_110 : decode y_Lexer_takeName.2.1 110 = .ok (.sipush 255, 3) := by decide +kernel
theorem d_Lexer_takeName_113 : decode y_Lexer_takeName.2.1 113 = .ok (.iand, 1) := by decide +kernel
theorem d_Lexer_takeName_114 : decode y_Lexer_takeName.2.1 114 = .ok (.i2c, 1) := by decide +kernel
theorem d_Lexer_takeName_115 : decode y_Lexer_takeName.2.1 115 = .ok (.castore, 1) := by decide +kernel
theorem d_Lexer_takeName_116 : decode y_Lexer_takeName.2.1 116 = .ok (.iinc 2 1, 3) := by decide +kernel
theorem d_Lexer_takeName_119 : decode y_Lexer_takeName.2.1 119 = .ok (.goto (-41), 3) := by decide +kernel
theorem d_Lexer_takeName_122 : decode y_Lexer_takeName.2.1 122 = .ok (.aload_n 0, 1) := by decide +kernel
theorem d_Lexer_takeName_123 : decode y_Lexer_takeName.2.1 123 = .ok (.aload_n 0, 1) := by decide +kernel
theorem d_Lexer_takeName_124 : decode y_Lexer_takeName.2.1 124 = .ok (.getfield 65, 3) := by decide +kernel
theorem d_Lexer_takeName_127 : decode y_Lexer_takeName.2.1 127 = .ok (.iconst 1, 1) := by decide +kernel
theorem d_Lexer_takeName_128 : decode y_Lexer_takeName.2.1 128 = .ok (.iadd, 1) := by decide +kernel
theorem d_Lexer_takeName_129 : decode y_Lexer_takeName.2.1 129 = .ok (.iconst 0, 1) := by decide +kernel
theorem d_Lexer_takeName_130 : decode y_Lexer_takeName.2.1 130 = .ok (.aload_n 0, 1) := by decide +kernel
theorem d_Lexer_takeName_131 : decode y_Lexer_takeName.2.1 131 = .ok (.getfield 45, 3) := by decide +kernel
theorem d_Lexer_takeName_134 : decode y_Lexer_takeName.2.1 134 = .ok (.iconst 1, 1) := by decide +kernel
theorem d_Lexer_takeName_135 : decode y_Lexer_takeName.2.1 135 = .ok (.isub, 1) := by decide +kernel
theorem d_Lexer_takeName_136 : decode y_Lexer_takeName.2.1 136 = .ok (.invokestatic 145, 3) := by decide +kernel
theorem d_Lexer_takeName_139 : decode y_Lexer_takeName.2.1 139 = .ok (.invokestatic 143, 3) := by decide +kernel
theorem d_Lexer_takeName_142 : decode y_Lexer_takeName.2.1 142 = .ok (.putfield 65, 3) := by decide +kernel
theorem d_Lexer_takeName_145 : decode y_Lexer_takeName.2.1 145 = .ok (.aload_n 0, 1) := by decide +kernel
theorem d_Lexer_takeName_146 : decode y_Lexer_takeName.2.1 146 = .ok (.aload_n 0, 1) := by decide +kernel
theorem d_Lexer_takeName_147 : decode y_Lexer_takeName.2.1 147 = .ok (.getfield 13, 3) := by decide +kernel
theorem d_Lexer_takeName_150 : decode y_Lexer_takeName.2.1 150 = .ok (.aload_n 0, 1) := by decide +kernel
theorem d_Lexer_takeName_151 : decode y_Lexer_takeName.2.1 151 = .ok (.getfield 65, 3) := by decide +kernel
theorem d_Lexer_takeName_154 : decode y_Lexer_takeName.2.1 154 = .ok (.iaload, 1) := by decide +kernel
theorem d_Lexer_takeName_155 : decode y_Lexer_takeName.2.1 155 = .ok (.putfield 68, 3) := by decide +kernel
theorem d_Lexer_takeName_158 : decode y_Lexer_takeName.2.1 158 = .ok (.aload_n 0, 1) := by decide +kernel
theorem d_Lexer_takeName_159 : decode y_Lexer_takeName.2.1 159 = .ok (.aload_n 0, 1) := by decide +kernel
theorem d_Lexer_takeName_160 : decode y_Lexer_takeName.2.1 160 = .ok (.getfield 17, 3) := by decide +kernel
theorem d_Lexer_takeName_163 : decode y_Lexer_takeName.2.1 163 = .ok (.aload_n 0, 1) := by decide +kernel
theorem d_Lexer_takeName_164 : decode y_Lexer_takeName.2.1 164 = .ok (.getfield 65, 3) := by decide +kernel
theorem d_Lexer_takeName_167 : decode y_Lexer_takeName.2.1 167 = .ok (.iaload, 1) := by decide +kernel
theorem d_Lexer_takeName_168 : decode y_Lexer_takeName.2.1 168 = .ok (.putfield 71, 3) := by decide +kernel
theorem d_Lexer_takeName_171 : decode y_Lexer_takeName.2.1 171 = .ok (.new 33, 3) := by decide +kernel
theorem d_Lexer_takeName_174 : decode y_Lexer_takeName.2.1 174 = .ok (.dup, 1) := by decide +kernel
theorem d_Lexer_takeName_175 : decode y_Lexer_takeName.2.1 175 = .ok (.aload_n 1, 1) := by decide +kernel
theorem d_Lexer_takeName_176 : decode y_Lexer_takeName.2.1 176 = .ok (.invokespecial 147, 3) := by decide +kernel
theorem d_Lexer_takeName_179 : decode y_Lexer_takeName.2.1 179 = .ok (.areturn, 1) := by decide +kernel
def y_Lexer_take : ab_Y := (⟨"WorldEngine$Lexer", "take", "(I)V"⟩, prog_3_method_17_code, 2, none, [])
theorem d_Lexer_take_0 : decode y_Lexer_take.2.1 0 = .ok (.aload_n 0, 1) := by decide +kernel
theorem d_Lexer_take_1 : decode y_Lexer_take.2.1 1 = .ok (.getfield 68, 3) := by decide +kernel
theorem d_Lexer_take_4 : decode y_Lexer_take.2.1 4 = .ok (.iload_n 1, 1) := by decide +kernel
theorem d_Lexer_take_5 : decode y_Lexer_take.2.1 5 = .ok (.if_icmp .eq 12, 3) := by decide +kernel
theorem d_Lexer_take_8 : decode y_Lexer_take.2.1 8 = .ok (.aload_n 0, 1) := by decide +kernel
theorem d_Lexer_take_9 : decode y_Lexer_take.2.1 9 = .ok (.iconst 1, 1) := by decide +kernel
theorem d_Lexer_take_10 : decode y_Lexer_take.2.1 10 = .ok (.aload_n 0, 1) := by decide +kernel
theorem d_Lexer_take_11 : decode y_Lexer_take.2.1 11 = .ok (.getfield 71, 3) := by decide +kernel
theorem d_Lexer_take_14 : decode y_Lexer_take.2.1 14 = .ok (.invokevirtual 134, 3) := by decide +kernel
theorem d_Lexer_take_17 : decode y_Lexer_take.2.1 17 = .ok (.aload_n 0, 1) := by decide +kernel
theorem d_Lexer_take_18 : decode y_Lexer_take.2.1 18 = .ok (.invokevirtual 138, 3) := by decide +kernel
theorem d_Lexer_take_21 : decode y_Lexer_take.2.1 21 = .ok (.return_, 1) := by decide +kernel
def y_Lexer_takeValue : ab_Y := (⟨"WorldEngine$Lexer", "takeValue", "()I"⟩, prog_3_method_19_code, 2, (some FieldType.int), [])
theorem d_Lexer_takeValue_0 : decode y_Lexer_takeValue.2.1 0 = .ok (.aload_n 0, 1) := by decide +kernel
theorem d_Lexer_takeValue_1 : decode y_Lexer_takeValue.2.1 1 = .ok (.getfield 23, 3) := by decide +kernel
theorem d_Lexer_takeValue_4 : decode y_Lexer_takeValue.2.1 4 = .ok (.aload_n 0, 1) := by decide +kernel
theorem d_Lexer_takeValue_5 : decode y_Lexer_takeValue.2.1 5 = .ok (.getfield 65, 3) := by decide +kernel
theorem d_Lexer_takeValue_8 : decode y_Lexer_takeValue.2.1 8 = .ok (.baload, 1) := by decide +kernel
theorem d_Lexer_takeValue_9 : decode y_Lexer_takeValue.2.1 9 = .ok (.ifCond .eq 12, 3) := by decide +kernel
theorem d_Lexer_takeValue_12 : decode y_Lexer_takeValue.2.1 12 = .ok (.aload_n 0, 1) := by decide +kernel
theorem d_Lexer_takeValue_13 : decode y_Lexer_takeValue.2.1 13 = .ok (.iconst 2, 1) := by decide +kernel
theorem d_Lexer_takeValue_14 : decode y_Lexer_takeValue.2.1 14 = .ok (.aload_n 0, 1) := by decide +kernel
theorem d_Lexer_takeValue_15 : decode y_Lexer_takeValue.2.1 15 = .ok (.getfield 71, 3) := by decide +kernel
theorem d_Lexer_takeValue_18 : decode y_Lexer_takeValue.2.1 18 = .ok (.invokevirtual 134, 3) := by decide +kernel
theorem d_Lexer_takeValue_21 : decode y_Lexer_takeValue.2.1 21 = .ok (.aload_n 0, 1) := by decide +kernel
theorem d_Lexer_takeValue_22 : decode y_Lexer_takeValue.2.1 22 = .ok (.getfield 20, 3) := by decide +kernel
theorem d_Lexer_takeValue_25 : decode y_Lexer_takeValue.2.1 25 = .ok (.aload_n 0, 1) := by decide +kernel
theorem d_Lexer_takeValue_26 : decode y_Lexer_takeValue.2.1 26 = .ok (.getfield 65, 3) := by decide +kernel
theorem d_Lexer_takeValue_29 : decode y_Lexer_takeValue.2.1 29 = .ok (.iaload, 1) := by decide +kernel
theorem d_Lexer_takeValue_30 : decode y_Lexer_takeValue.2.1 30 = .ok (.istore_n 1, 1) := by decide +kernel
theorem d_Lexer_takeValue_31 : decode y_Lexer_takeValue.2.1 31 = .ok (.aload_n 0, 1) := by decide +kernel
theorem d_Lexer_takeValue_32 : decode y_Lexer_takeValue.2.1 32 = .ok (.invokevirtual 138, 3) := by decide +kernel
theorem d_Lexer_takeValue_35 : decode y_Lexer_takeValue.2.1 35 = .ok (.iload_n 1, 1) := by decide +kernel
theorem d_Lexer_takeValue_36 : decode y_Lexer_takeValue.2.1 36 = .ok (.ireturn, 1) := by decide +kernel
theorem s_Lexer_init : ab_Stat y_Lexer_init 0 := ⟨(k1 43 rfl rfl), (k1 2 rfl rfl), ⟨by decide, by decide⟩, by decide +kernel⟩
theorem i_Lexer_init : Cond.instanceMethod y_Lexer_init.1 ∈ ab_T := (k1 42 rfl rfl)
theorem s_Lexer_hasRoom : ab_Stat y_Lexer_hasRoom 1 := ⟨(k3 192 rfl rfl), (k1 2 rfl rfl), ⟨by decide, by decide⟩, by decide +kernel⟩
theorem i_Lexer_hasRoom : Cond.instanceMethod y_Lexer_hasRoom.1 ∈ ab_T := (k3 190 rfl rfl)
theorem v_Lexer_hasRoom : Cond.selects "WorldEngine$Lexer" y_Lexer_hasRoom.1 y_Lexer_hasRoom.1 ∈ ab_T := (k3 191 rfl rfl)
theorem s_Lexer_addInt : ab_Stat y_Lexer_addInt 1 := ⟨(k3 196 rfl rfl), (k1 2 rfl rfl), ⟨by decide, by decide⟩, by decide +kernel⟩
theorem i_Lexer_addInt : Cond.instanceMethod y_Lexer_addInt.1 ∈ ab_T := (k3 194 rfl rfl)
theorem v_Lexer_addInt : Cond.selects "WorldEngine$Lexer" y_Lexer_addInt.1 y_Lexer_addInt.1 ∈ ab_T := (k3 195 rfl rfl)
theorem s_Lexer_begin : ab_Stat y_Lexer_begin 0 := ⟨(k3 221 rfl rfl), (k1 2 rfl rfl), ⟨by decide, by decide⟩, by decide +kernel⟩
theorem i_Lexer_begin : Cond.instanceMethod y_Lexer_begin.1 ∈ ab_T := (k3 219 rfl rfl)
theorem v_Lexer_begin : Cond.selects "WorldEngine$Lexer" y_Lexer_begin.1 y_Lexer_begin.1 ∈ ab_T := (k3 220 rfl rfl)
theorem s_Lexer_behindBlanks : ab_Stat y_Lexer_behindBlanks 1 := ⟨(k3 225 rfl rfl), (k1 2 rfl rfl), ⟨by decide, by decide⟩, by decide +kernel⟩
theorem i_Lexer_behindBlanks : Cond.instanceMethod y_Lexer_behindBlanks.1 ∈ ab_T := (k3 224 rfl rfl)
theorem v_Lexer_behindBlanks : Cond.selects "WorldEngine$Lexer" y_Lexer_behindBlanks.1 y_Lexer_behindBlanks.1 ∈ ab_T := ab_s (List.mem_of_getElem? (i := 0) rfl) rfl
theorem s_Lexer_byteAt : ab_Stat y_Lexer_byteAt 1 := ⟨(k3 229 rfl rfl), (k1 2 rfl rfl), ⟨by decide, by decide⟩, by decide +kernel⟩
theorem i_Lexer_byteAt : Cond.instanceMethod y_Lexer_byteAt.1 ∈ ab_T := (k3 228 rfl rfl)
theorem v_Lexer_byteAt : Cond.selects "WorldEngine$Lexer" y_Lexer_byteAt.1 y_Lexer_byteAt.1 ∈ ab_T := ab_s (List.mem_of_getElem? (i := 1) rfl) rfl
theorem s_Lexer_behindToken : ab_Stat y_Lexer_behindToken 1 := ⟨(k3 233 rfl rfl), (k1 2 rfl rfl), ⟨by decide, by decide⟩, by decide +kernel⟩
theorem i_Lexer_behindToken : Cond.instanceMethod y_Lexer_behindToken.1 ∈ ab_T := (k3 232 rfl rfl)
theorem v_Lexer_behindToken : Cond.selects "WorldEngine$Lexer" y_Lexer_behindToken.1 y_Lexer_behindToken.1 ∈ ab_T := ab_s (List.mem_of_getElem? (i := 2) rfl) rfl
theorem s_Lexer_isLetter : ab_Stat y_Lexer_isLetter 1 := ⟨(k3 236 rfl rfl), (k1 2 rfl rfl), ⟨by decide, by decide⟩, by decide +kernel⟩
theorem t_Lexer_isLetter : Cond.static y_Lexer_isLetter.1 ∈ ab_T := (k3 235 rfl rfl)
theorem s_Lexer_behindName : ab_Stat y_Lexer_behindName 1 := ⟨(k4 0 rfl rfl), (k1 2 rfl rfl), ⟨by decide, by decide⟩, by decide +kernel⟩
theorem i_Lexer_behindName : Cond.instanceMethod y_Lexer_behindName.1 ∈ ab_T := (k3 239 rfl rfl)
theorem v_Lexer_behindName : Cond.selects "WorldEngine$Lexer" y_Lexer_behindName.1 y_Lexer_behindName.1 ∈ ab_T := ab_s (List.mem_of_getElem? (i := 3) rfl) rfl
theorem s_Lexer_isDigit : ab_Stat y_Lexer_isDigit 1 := ⟨(k4 3 rfl rfl), (k1 2 rfl rfl), ⟨by decide, by decide⟩, by decide +kernel⟩
theorem t_Lexer_isDigit : Cond.static y_Lexer_isDigit.1 ∈ ab_T := (k4 2 rfl rfl)
theorem s_Lexer_wordOf : ab_Stat y_Lexer_wordOf 2 := ⟨(k4 7 rfl rfl), (k1 2 rfl rfl), ⟨by decide, by decide⟩, by decide +kernel⟩
theorem i_Lexer_wordOf : Cond.instanceMethod y_Lexer_wordOf.1 ∈ ab_T := (k4 6 rfl rfl)
theorem v_Lexer_wordOf : Cond.selects "WorldEngine$Lexer" y_Lexer_wordOf.1 y_Lexer_wordOf.1 ∈ ab_T := ab_s (List.mem_of_getElem? (i := 4) rfl) rfl
theorem s_Lexer_note : ab_Stat y_Lexer_note 4 := ⟨(k4 11 rfl rfl), (k1 2 rfl rfl), ⟨by decide, by decide⟩, by decide +kernel⟩
theorem i_Lexer_note : Cond.instanceMethod y_Lexer_note.1 ∈ ab_T := (k4 10 rfl rfl)
theorem v_Lexer_note : Cond.selects "WorldEngine$Lexer" y_Lexer_note.1 y_Lexer_note.1 ∈ ab_T := ab_s (List.mem_of_getElem? (i := 5) rfl) rfl
theorem s_Lexer_behindNumber : ab_Stat y_Lexer_behindNumber 1 := ⟨(k4 15 rfl rfl), (k1 2 rfl rfl), ⟨by decide, by decide⟩, by decide +kernel⟩
theorem i_Lexer_behindNumber : Cond.instanceMethod y_Lexer_behindNumber.1 ∈ ab_T := (k4 14 rfl rfl)
theorem v_Lexer_behindNumber : Cond.selects "WorldEngine$Lexer" y_Lexer_behindNumber.1 y_Lexer_behindNumber.1 ∈ ab_T := ab_s (List.mem_of_getElem? (i := 6) rfl) rfl
theorem s_Lexer_behindSign : ab_Stat y_Lexer_behindSign 1 := ⟨(k4 32 rfl rfl), (k1 2 rfl rfl), ⟨by decide, by decide⟩, by decide +kernel⟩
theorem i_Lexer_behindSign : Cond.instanceMethod y_Lexer_behindSign.1 ∈ ab_T := (k4 31 rfl rfl)
theorem v_Lexer_behindSign : Cond.selects "WorldEngine$Lexer" y_Lexer_behindSign.1 y_Lexer_behindSign.1 ∈ ab_T := ab_s (List.mem_of_getElem? (i := 7) rfl) rfl
theorem s_Lexer_refuse : ab_Stat y_Lexer_refuse 2 := ⟨(k4 100 rfl rfl), (k1 2 rfl rfl), ⟨by decide, by decide⟩, by decide +kernel⟩
theorem i_Lexer_refuse : Cond.instanceMethod y_Lexer_refuse.1 ∈ ab_T := (k4 98 rfl rfl)
theorem v_Lexer_refuse : Cond.selects "WorldEngine$Lexer" y_Lexer_refuse.1 y_Lexer_refuse.1 ∈ ab_T := (k4 99 rfl rfl)
theorem s_Lexer_advance : ab_Stat y_Lexer_advance 0 := ⟨(k4 170 rfl rfl), (k1 2 rfl rfl), ⟨by decide, by decide⟩, by decide +kernel⟩
theorem i_Lexer_advance : Cond.instanceMethod y_Lexer_advance.1 ∈ ab_T := (k4 168 rfl rfl)
theorem v_Lexer_advance : Cond.selects "WorldEngine$Lexer" y_Lexer_advance.1 y_Lexer_advance.1 ∈ ab_T := (k4 169 rfl rfl)
theorem s_Lexer_takeName : ab_Stat y_Lexer_takeName 0 := ⟨(k4 178 rfl rfl), (k1 2 rfl rfl), ⟨by decide, by decide⟩, by decide +kernel⟩
theorem i_Lexer_takeName : Cond.instanceMethod y_Lexer_takeName.1 ∈ ab_T := (k4 176 rfl rfl)
theorem v_Lexer_takeName : Cond.selects "WorldEngine$Lexer" y_Lexer_takeName.1 y_Lexer_takeName.1 ∈ ab_T := (k4 177 rfl rfl)
theorem s_Lexer_take : ab_Stat y_Lexer_take 1 := ⟨(k5 27 rfl rfl), (k1 2 rfl rfl), ⟨by decide, by decide⟩, by decide +kernel⟩
theorem i_Lexer_take : Cond.instanceMethod y_Lexer_take.1 ∈ ab_T := (k5 25 rfl rfl)
theorem v_Lexer_take : Cond.selects "WorldEngine$Lexer" y_Lexer_take.1 y_Lexer_take.1 ∈ ab_T := (k5 26 rfl rfl)
theorem s_Lexer_takeValue : ab_Stat y_Lexer_takeValue 0 := ⟨(k5 88 rfl rfl), (k1 2 rfl rfl), ⟨by decide, by decide⟩, by decide +kernel⟩
theorem i_Lexer_takeValue : Cond.instanceMethod y_Lexer_takeValue.1 ∈ ab_T := (k5 86 rfl rfl)
theorem v_Lexer_takeValue : Cond.selects "WorldEngine$Lexer" y_Lexer_takeValue.1 y_Lexer_takeValue.1 ∈ ab_T := (k5 87 rfl rfl)
