def y_Play_init : ab_Y := (⟨"WorldEngine$Play", "<init>", "()V"⟩, prog_5_method_1_code, 2, none, [])
theorem d_Play_init_0 : decode y_Play_init.2.1 0 = .ok (.aload_n 0, 1) := by decide +kernel
theorem d_Play_init_1 : decode y_Play_init.2.1 1 = .ok (.invokespecial 1, 3) := by decide +kernel
theorem d_Play_init_4 : decode y_Play_init.2.1 4 = .ok (.aload_n 0, 1) := by decide +kernel
theorem d_Play_init_5 : decode y_Play_init.2.1 5 = .ok (.new 7, 3) := by decide +kernel
theorem d_Play_init_8 : decode y_Play_init.2.1 8 = .ok (.dup, 1) := by decide +kernel
theorem d_Play_init_9 : decode y_Play_init.2.1 9 = .ok (.invokespecial 9, 3) := by decide +kernel
theorem d_Play_init_12 : decode y_Play_init.2.1 12 = .ok (.putfield 10, 3) := by decide +kernel
theorem d_Play_init_15 : decode y_Play_init.2.1 15 = .ok (.aload_n 0, 1) := by decide +kernel
theorem d_Play_init_16 : decode y_Play_init.2.1 16 = .ok (.bipush 16, 2) := by decide +kernel
theorem d_Play_init_18 : decode y_Play_init.2.1 18 = .ok (.anewarray 7, 3) := by decide +kernel
theorem d_Play_init_21 : decode y_Play_init.2.1 21 = .ok (.putfield 16, 3) := by decide +kernel
theorem d_Play_init_24 : decode y_Play_init.2.1 24 = .ok (.iconst 0, 1) := by decide +kernel
theorem d_Play_init_25 : decode y_Play_init.2.1 25 = .ok (.istore_n 1, 1) := by decide +kernel
theorem d_Play_init_26 : decode y_Play_init.2.1 26 = .ok (.iload_n 1, 1) := by decide +kernel
theorem d_Play_init_27 : decode y_Play_init.2.1 27 = .ok (.bipush 16, 2) := by decide +kernel
theorem d_Play_init_29 : decode y_Play_init.2.1 29 = .ok (.if_icmp .ge 22, 3) := by decide +kernel
theorem d_Play_init_32 : decode y_Play_init.2.1 32 = .ok (.aload_n 0, 1) := by decide +kernel
theorem d_Play_init_33 : decode y_Play_init.2.1 33 = .ok (.getfield 16, 3) := by decide +kernel
theorem d_Play_init_36 : decode y_Play_init.2.1 36 = .ok (.iload_n 1, 1) := by decide +kernel
theorem d_Play_init_37 : decode y_Play_init.2.1 37 = .ok (.new 7, 3) := by decide +kernel
theorem d_Play_init_40 : decode y_Play_init.2.1 40 = .ok (.dup, 1) := by decide +kernel
theorem d_Play_init_41 : decode y_Play_init.2.1 41 = .ok (.invokespecial 9, 3) := by decide +kernel
theorem d_Play_init_44 : decode y_Play_init.2.1 44 = .ok (.aastore, 1) := by decide +kernel
theorem d_Play_init_45 : decode y_Play_init.2.1 45 = .ok (.iinc 1 1, 3) := by decide +kernel
theorem d_Play_init_48 : decode y_Play_init.2.1 48 = .ok (.goto (-22), 3) := by decide +kernel
theorem d_Play_init_51 : decode y_Play_init.2.1 51 = .ok (.aload_n 0, 1) := by decide +kernel
theorem d_Play_init_52 : decode y_Play_init.2.1 52 = .ok (.iconst 1, 1) := by decide +kernel
theorem d_Play_init_53 : decode y_Play_init.2.1 53 = .ok (.putfield 20, 3) := by decide +kernel
theorem d_Play_init_56 : decode y_Play_init.2.1 56 = .ok (.aload_n 0, 1) := by decide +kernel
theorem d_Play_init_57 : decode y_Play_init.2.1 57 = .ok (.sipush 256, 3) := by decide +kernel
theorem d_Play_init_60 : decode y_Play_init.2.1 60 = .ok (.newarray .int, 2) := by decide +kernel
theorem d_Play_init_62 : decode y_Play_init.2.1 62 = .ok (.putfield 24, 3) := by decide +kernel
theorem d_Play_init_65 : decode y_Play_init.2.1 65 = .ok (.aload_n 0, 1) := by decide +kernel
theorem d_Play_init_66 : decode y_Play_init.2.1 66 = .ok (.new 28, 3) := by decide +kernel
theorem d_Play_init_69 : decode y_Play_init.2.1 69 = .ok (.dup, 1) := by decide +kernel
theorem d_Play_init_70 : decode y_Play_init.2.1 70 = .ok (.invokespecial 30, 3) := by decide +kernel
theorem d_Play_init_73 : decode y_Play_init.2.1 73 = .ok (.putfield 31, 3) := by decide +kernel
theorem d_Play_init_76 : decode y_Play_init.2.1 76 = .ok (.aload_n 0, 1) := by decide +kernel
theorem d_Play_init_77 : decode y_Play_init.2.1 77 = .ok (.sipush 256, 3) := by decide +kernel
theorem d_Play_init_80 : decode y_Play_init.2.1 80 = .ok (.newarray .boolean, 2) := by decide +kernel
theorem d_Play_init_82 : decode y_Play_init.2.1 82 = .ok (.putfield 35, 3) := by decide +kernel
theorem d_Play_init_85 : decode y_Play_init.2.1 85 = .ok (.aload_n 0, 1) := by decide +kernel
theorem d_Play_init_86 : decode y_Play_init.2.1 86 = .ok (.sipush 256, 3) := by decide +kernel
theorem d_Play_init_89 : decode y_Play_init.2.1 89 = .ok (.newarray .int, 2) := by decide +kernel
theorem d_Play_init_91 : decode y_Play_init.2.1 91 = .ok (.putfield 39, 3) := by decide +kernel
theorem d_Play_init_94 : decode y_Play_init.2.1 94 = .ok (.aload_n 0, 1) := by decide +kernel
theorem d_Play_init_95 : decode y_Play_init.2.1 95 = .ok (.iconst 4, 1) := by decide +kernel
theorem d_Play_init_96 : decode y_Play_init.2.1 96 = .ok (.newarray .int, 2) := by decide +kernel
theorem d_Play_init_98 : decode y_Play_init.2.1 98 = .ok (.putfield 42, 3) := by decide +kernel
theorem d_Play_init_101 : decode y_Play_init.2.1 101 = .ok (.aload_n 0, 1) := by decide +kernel
theorem d_Play_init_102 : decode y_Play_init.2.1 102 = .ok (.bipush 16, 2) := by decide +kernel
theorem d_Play_init_104 : decode y_Play_init.2.1 104 = .ok (.newarray .int, 2) := by decide +kernel
theorem d_Play_init_106 : decode y_Play_init.2.1 106 = .ok (.putfield 45, 3) := by decide +kernel
theorem d_Play_init_109 : decode y_Play_init.2.1 109 = .ok (.aload_n 0, 1) := by decide +kernel
theorem d_Play_init_110 : decode y_Play_init.2.1 110 = .ok (.bipush 64, 2) := by decide +kernel
theorem d_Play_init_112 : decode y_Play_init.2.1 112 = .ok (.newarray .int, 2) := by decide +kernel
theorem d_Play_init_114 : decode y_Play_init.2.1 114 = .ok (.putfield 48, 3) := by decide +kernel
theorem d_Play_init_117 : decode y_Play_init.2.1 117 = .ok (.aload_n 0, 1) := by decide +kernel
theorem d_Play_init_118 : decode y_Play_init.2.1 118 = .ok (.iconst 4, 1) := by decide +kernel
theorem d_Play_init_119 : decode y_Play_init.2.1 119 = .ok (.newarray .int, 2) := by decide +kernel
theorem d_Play_init_121 : decode y_Play_init.2.1 121 = .ok (.putfield 51, 3) := by decide +kernel
theorem d_Play_init_124 : decode y_Play_init.2.1 124 = .ok (.return_, 1) := by decide +kernel
def y_Play_begin : ab_Y := (⟨"WorldEngine$Play", "begin", "(II)V"⟩, prog_5_method_4_code, 3, none, [])
theorem d_Play_begin_0 : decode y_Play_begin.2.1 0 = .ok (.aload_n 0, 1) := by decide +kernel
theorem d_Play_begin_1 : decode y_Play_begin.2.1 1 = .ok (.getfield 10, 3) := by decide +kernel
theorem d_Play_begin_4 : decode y_Play_begin.2.1 4 = .ok (.iload_n 1, 1) := by decide +kernel
theorem d_Play_begin_5 : decode y_Play_begin.2.1 5 = .ok (.iload_n 2, 1) := by decide +kernel
theorem d_Play_begin_6 : decode y_Play_begin.2.1 6 = .ok (.invokevirtual 60, 3) := by decide +kernel
theorem d_Play_begin_9 : decode y_Play_begin.2.1 9 = .ok (.aload_n 0, 1) := by decide +kernel
theorem d_Play_begin_10 : decode y_Play_begin.2.1 10 = .ok (.iconst 0, 1) := by decide +kernel
theorem d_Play_begin_11 : decode y_Play_begin.2.1 11 = .ok (.putfield 64, 3) := by decide +kernel
theorem d_Play_begin_14 : decode y_Play_begin.2.1 14 = .ok (.aload_n 0, 1) := by decide +kernel
theorem d_Play_begin_15 : decode y_Play_begin.2.1 15 = .ok (.iconst 0, 1) := by decide +kernel
theorem d_Play_begin_16 : decode y_Play_begin.2.1 16 = .ok (.putfield 67, 3) := by decide +kernel
theorem d_Play_begin_19 : decode y_Play_begin.2.1 19 = .ok (.aload_n 0, 1) := by decide +kernel
theorem d_Play_begin_20 : decode y_Play_begin.2.1 20 = .ok (.invokevirtual 70, 3) := by decide +kernel
theorem d_Play_begin_23 : decode y_Play_begin.2.1 23 = .ok (.return_, 1) := by decide +kernel
def y_Play_forgetInputs : ab_Y := (⟨"WorldEngine$Play", "forgetInputs", "()V"⟩, prog_5_method_5_code, 2, none, [])
theorem d_Play_forgetInputs_0 : decode y_Play_forgetInputs.2.1 0 = .ok (.aload_n 0, 1) := by decide +kernel
theorem d_Play_forgetInputs_1 : decode y_Play_forgetInputs.2.1 1 = .ok (.aload_n 0, 1) := by decide +kernel
theorem d_Play_forgetInputs_2 : decode y_Play_forgetInputs.2.1 2 = .ok (.getfield 10, 3) := by decide +kernel
theorem d_Play_forgetInputs_5 : decode y_Play_forgetInputs.2.1 5 = .ok (.getfield 54, 3) := by decide +kernel
theorem d_Play_forgetInputs_8 : decode y_Play_forgetInputs.2.1 8 = .ok (.putfield 57, 3) := by decide +kernel
theorem d_Play_forgetInputs_11 : decode y_Play_forgetInputs.2.1 11 = .ok (.iconst 0, 1) := by decide +kernel
theorem d_Play_forgetInputs_12 : decode y_Play_forgetInputs.2.1 12 = .ok (.istore_n 1, 1) := by decide +kernel
theorem d_Play_forgetInputs_13 : decode y_Play_forgetInputs.2.1 13 = .ok (.iload_n 1, 1) := by decide +kernel
theorem d_Play_forgetInputs_14 : decode y_Play_forgetInputs.2.1 14 = .ok (.aload_n 0, 1) := by decide +kernel
theorem d_Play_forgetInputs_15 : decode y_Play_forgetInputs.2.1 15 = .ok (.getfield 35, 3) := by decide +kernel
theorem d_Play_forgetInputs_18 : decode y_Play_forgetInputs.2.1 18 = .ok (.arraylength, 1) := by decide +kernel
theorem d_Play_forgetInputs_19 : decode y_Play_forgetInputs.2.1 19 = .ok (.if_icmp .ge 16, 3) := by decide +kernel
theorem d_Play_forgetInputs_22 : decode y_Play_forgetInputs.2.1 22 = .ok (.aload_n 0, 1) := by decide +kernel
theorem d_Play_forgetInputs_23 : decode y_Play_forgetInputs.2.1 23 = .ok (.getfield 35, 3) := by decide +kernel
theorem d_Play_forgetInputs_26 : decode y_Play_forgetInputs.2.1 26 = .ok (.iload_n 1, 1) := by decide +kernel
theorem d_Play_forgetInputs_27 : decode y_Play_forgetInputs.2.1 27 = .ok (.iconst 0, 1) := by decide +kernel
theorem d_Play_forgetInputs_28 : decode y_Play_forgetInputs.2.1 28 = .ok (.bastore, 1) := by decide +kernel
theorem d_Play_forgetInputs_29 : decode y_Play_forgetInputs.2.1 29 = .ok (.iinc 1 1, 3) := by decide +kernel
theorem d_Play_forgetInputs_32 : decode y_Play_forgetInputs.2.1 32 = .ok (.goto (-19), 3) := by decide +kernel
theorem d_Play_forgetInputs_35 : decode y_Play_forgetInputs.2.1 35 = .ok (.aload_n 0, 1) := by decide +kernel
theorem d_Play_forgetInputs_36 : decode y_Play_forgetInputs.2.1 36 = .ok (.getfield 42, 3) := by decide +kernel
theorem d_Play_forgetInputs_39 : decode y_Play_forgetInputs.2.1 39 = .ok (.iconst 0, 1) := by decide +kernel
theorem d_Play_forgetInputs_40 : decode y_Play_forgetInputs.2.1 40 = .ok (.invokestatic 73, 3) := by decide +kernel
theorem d_Play_forgetInputs_43 : decode y_Play_forgetInputs.2.1 43 = .ok (.return_, 1) := by decide +kernel
def y_Play_isQuiet : ab_Y := (⟨"WorldEngine$Play", "isQuiet", "()Z"⟩, prog_5_method_2_code, 1, (some FieldType.boolean), [])
theorem d_Play_isQuiet_0 : decode y_Play_isQuiet.2.1 0 = .ok (.aload_n 0, 1) := by decide +kernel
theorem d_Play_isQuiet_1 : decode y_Play_isQuiet.2.1 1 = .ok (.getfield 10, 3) := by decide +kernel
theorem d_Play_isQuiet_4 : decode y_Play_isQuiet.2.1 4 = .ok (.getfield 54, 3) := by decide +kernel
theorem d_Play_isQuiet_7 : decode y_Play_isQuiet.2.1 7 = .ok (.aload_n 0, 1) := by decide +kernel
theorem d_Play_isQuiet_8 : decode y_Play_isQuiet.2.1 8 = .ok (.getfield 57, 3) := by decide +kernel
theorem d_Play_isQuiet_11 : decode y_Play_isQuiet.2.1 11 = .ok (.if_icmp .ne 7, 3) := by decide +kernel
theorem d_Play_isQuiet_14 : decode y_Play_isQuiet.2.1 14 = .ok (.iconst 1, 1) := by decide +kernel
theorem d_Play_isQuiet_15 : decode y_Play_isQuiet.2.1 15 = .ok (.goto 4, 3) := by decide +kernel
theorem d_Play_isQuiet_18 : decode y_Play_isQuiet.2.1 18 = .ok (.iconst 0, 1) := by decide +kernel
theorem d_Play_isQuiet_19 : decode y_Play_isQuiet.2.1 19 = .ok (.ireturn, 1) := by decide +kernel
def y_Play_carry : ab_Y := (⟨"WorldEngine$Play", "carry", "(LWorldEngine$Program;LWorldEngine$Program;)V"⟩, prog_5_method_7_code, 4, none, [])
theorem d_Play_carry_0 : decode y_Play_carry.2.1 0 = .ok (.aload_n 0, 1) := by decide +kernel
theorem d_Play_carry_1 : decode y_Play_carry.2.1 1 = .ok (.invokevirtual 79, 3) := by decide +kernel
theorem d_Play_carry_4 : decode y_Play_carry.2.1 4 = .ok (.astore_n 3, 1) := by decide +kernel
theorem d_Play_carry_5 : decode y_Play_carry.2.1 5 = .ok (.aload_n 3, 1) := by decide +kernel
theorem d_Play_carry_6 : decode y_Play_carry.2.1 6 = .ok (.aload_n 0, 1) := by decide +kernel
theorem d_Play_carry_7 : decode y_Play_carry.2.1 7 = .ok (.getfield 10, 3) := by decide +kernel
theorem d_Play_carry_10 : decode y_Play_carry.2.1 10 = .ok (.invokevirtual 83, 3) := by decide +kernel
theorem d_Play_carry_13 : decode y_Play_carry.2.1 13 = .ok (.aload_n 0, 1) := by decide +kernel
theorem d_Play_carry_14 : decode y_Play_carry.2.1 14 = .ok (.getfield 10, 3) := by decide +kernel
theorem d_Play_carry_17 : decode y_Play_carry.2.1 17 = .ok (.aload_n 3, 1) := by decide +kernel
theorem d_Play_carry_18 : decode y_Play_carry.2.1 18 = .ok (.aload_n 1, 1) := by decide +kernel
theorem d_Play_carry_19 : decode y_Play_carry.2.1 19 = .ok (.aload_n 2, 1) := by decide +kernel
theorem d_Play_carry_20 : decode y_Play_carry.2.1 20 = .ok (.invokevirtual 87, 3) := by decide +kernel
theorem d_Play_carry_23 : decode y_Play_carry.2.1 23 = .ok (.return_, 1) := by decide +kernel
def y_Play_scratch : ab_Y := (⟨"WorldEngine$Play", "scratch", "()LWorldEngine$World;"⟩, prog_5_method_6_code, 1, (some (FieldType.object "WorldEngine$World")), [])
theorem d_Play_scratch_0 : decode y_Play_scratch.2.1 0 = .ok (.aload_n 0, 1) := by decide +kernel
theorem d_Play_scratch_1 : decode y_Play_scratch.2.1 1 = .ok (.getfield 16, 3) := by decide +kernel
theorem d_Play_scratch_4 : decode y_Play_scratch.2.1 4 = .ok (.iconst 0, 1) := by decide +kernel
theorem d_Play_scratch_5 : decode y_Play_scratch.2.1 5 = .ok (.aaload, 1) := by decide +kernel
theorem d_Play_scratch_6 : decode y_Play_scratch.2.1 6 = .ok (.areturn, 1) := by decide +kernel
def y_Play_isFullyAhead : ab_Y := (⟨"WorldEngine$Play", "isFullyAhead", "()Z"⟩, prog_5_method_3_code, 1, (some FieldType.boolean), [])
theorem d_Play_isFullyAhead_0 : decode y_Play_isFullyAhead.2.1 0 = .ok (.aload_n 0, 1) := by decide +kernel
theorem d_Play_isFullyAhead_1 : decode y_Play_isFullyAhead.2.1 1 = .ok (.getfield 10, 3) := by decide +kernel
theorem d_Play_isFullyAhead_4 : decode y_Play_isFullyAhead.2.1 4 = .ok (.getfield 54, 3) := by decide +kernel
theorem d_Play_isFullyAhead_7 : decode y_Play_isFullyAhead.2.1 7 = .ok (.aload_n 0, 1) := by decide +kernel
theorem d_Play_isFullyAhead_8 : decode y_Play_isFullyAhead.2.1 8 = .ok (.getfield 57, 3) := by decide +kernel
theorem d_Play_isFullyAhead_11 : decode y_Play_isFullyAhead.2.1 11 = .ok (.bipush 16, 2) := by decide +kernel
theorem d_Play_isFullyAhead_13 : decode y_Play_isFullyAhead.2.1 13 = .ok (.iadd, 1) := by decide +kernel
theorem d_Play_isFullyAhead_14 : decode y_Play_isFullyAhead.2.1 14 = .ok (.if_icmp .lt 7, 3) := by decide +kernel
theorem d_Play_isFullyAhead_17 : decode y_Play_isFullyAhead.2.1 17 = .ok (.iconst 1, 1) := by decide +kernel
theorem d_Play_isFullyAhead_18 : decode y_Play_isFullyAhead.2.1 18 = .ok (.goto 4, 3) := by decide +kernel
theorem d_Play_isFullyAhead_21 : decode y_Play_isFullyAhead.2.1 21 = .ok (.iconst 0, 1) := by decide +kernel
theorem d_Play_isFullyAhead_22 : decode y_Play_isFullyAhead.2.1 22 = .ok (.ireturn, 1) := by decide +kernel
def y_Play_goOn : ab_Y := (⟨"WorldEngine$Play", "goOn", "(LWorldEngine$Program;)V"⟩, prog_5_method_11_code, 2, none, [])
theorem d_Play_goOn_0 : decode y_Play_goOn.2.1 0 = .ok (.aload_n 0, 1) := by decide +kernel
theorem d_Play_goOn_1 : decode y_Play_goOn.2.1 1 = .ok (.getfield 45, 3) := by decide +kernel
theorem d_Play_goOn_4 : decode y_Play_goOn.2.1 4 = .ok (.aload_n 0, 1) := by decide +kernel
theorem d_Play_goOn_5 : decode y_Play_goOn.2.1 5 = .ok (.getfield 10, 3) := by decide +kernel
theorem d_Play_goOn_8 : decode y_Play_goOn.2.1 8 = .ok (.getfield 54, 3) := by decide +kernel
theorem d_Play_goOn_11 : decode y_Play_goOn.2.1 11 = .ok (.iconst 1, 1) := by decide +kernel
theorem d_Play_goOn_12 : decode y_Play_goOn.2.1 12 = .ok (.iadd, 1) := by decide +kernel
theorem d_Play_goOn_13 : decode y_Play_goOn.2.1 13 = .ok (.bipush 15, 2) := by decide +kernel
theorem d_Play_goOn_15 : decode y_Play_goOn.2.1 15 = .ok (.iand, 1) := by decide +kernel
theorem d_Play_goOn_16 : decode y_Play_goOn.2.1 16 = .ok (.aload_n 0, 1) := by decide +kernel
theorem d_Play_goOn_17 : decode y_Play_goOn.2.1 17 = .ok (.getfield 20, 3) := by decide +kernel
theorem d_Play_goOn_20 : decode y_Play_goOn.2.1 20 = .ok (.iastore, 1) := by decide +kernel
theorem d_Play_goOn_21 : decode y_Play_goOn.2.1 21 = .ok (.aload_n 0, 1) := by decide +kernel
theorem d_Play_goOn_22 : decode y_Play_goOn.2.1 22 = .ok (.invokevirtual 95, 3) := by decide +kernel
theorem d_Play_goOn_25 : decode y_Play_goOn.2.1 25 = .ok (.aload_n 0, 1) := by decide +kernel
theorem d_Play_goOn_26 : decode y_Play_goOn.2.1 26 = .ok (.getfield 31, 3) := by decide +kernel
theorem d_Play_goOn_29 : decode y_Play_goOn.2.1 29 = .ok (.aload_n 1, 1) := by decide +kernel
theorem d_Play_goOn_30 : decode y_Play_goOn.2.1 30 = .ok (.aload_n 0, 1) := by decide +kernel
theorem d_Play_goOn_31 : decode y_Play_goOn.2.1 31 = .ok (.getfield 10, 3) := by decide +kernel
theorem d_Play_goOn_34 : decode y_Play_goOn.2.1 34 = .ok (.aload_n 0, 1) := by decide +kernel
theorem d_Play_goOn_35 : decode y_Play_goOn.2.1 35 = .ok (.getfield 51, 3) := by decide +kernel
theorem d_Play_goOn_38 : decode y_Play_goOn.2.1 38 = .ok (.invokevirtual 98, 3) := by decide +kernel
theorem d_Play_goOn_41 : decode y_Play_goOn.2.1 41 = .ok (.aload_n 0, 1) := by decide +kernel
theorem d_Play_goOn_42 : decode y_Play_goOn.2.1 42 = .ok (.invokevirtual 102, 3) := by decide +kernel
theorem d_Play_goOn_45 : decode y_Play_goOn.2.1 45 = .ok (.return_, 1) := by decide +kernel
def y_Play_prepareNext : ab_Y := (⟨"WorldEngine$Play", "prepareNext", "()V"⟩, prog_5_method_12_code, 3, none, [])
theorem d_Play_prepareNext_0 : decode y_Play_prepareNext.2.1 0 = .ok (.aload_n 0, 1) := by decide +kernel
theorem d_Play_prepareNext_1 : decode y_Play_prepareNext.2.1 1 = .ok (.getfield 16, 3) := by decide +kernel
theorem d_Play_prepareNext_4 : decode y_Play_prepareNext.2.1 4 = .ok (.aload_n 0, 1) := by decide +kernel
theorem d_Play_prepareNext_5 : decode y_Play_prepareNext.2.1 5 = .ok (.getfield 10, 3) := by decide +kernel
theorem d_Play_prepareNext_8 : decode y_Play_prepareNext.2.1 8 = .ok (.getfield 54, 3) := by decide +kernel
theorem d_Play_prepareNext_11 : decode y_Play_prepareNext.2.1 11 = .ok (.bipush 15, 2) := by decide +kernel
theorem d_Play_prepareNext_13 : decode y_Play_prepareNext.2.1 13 = .ok (.iand, 1) := by decide +kernel
theorem d_Play_prepareNext_14 : decode y_Play_prepareNext.2.1 14 = .ok (.aaload, 1) := by decide +kernel
theorem d_Play_prepareNext_15 : decode y_Play_prepareNext.2.1 15 = .ok (.aload_n 0, 1) := by decide +kernel
theorem d_Play_prepareNext_16 : decode y_Play_prepareNext.2.1 16 = .ok (.getfield 10, 3) := by decide +kernel
theorem d_Play_prepareNext_19 : decode y_Play_prepareNext.2.1 19 = .ok (.invokevirtual 83, 3) := by decide +kernel
theorem d_Play_prepareNext_22 : decode y_Play_prepareNext.2.1 22 = .ok (.aload_n 0, 1) := by decide +kernel
theorem d_Play_prepareNext_23 : decode y_Play_prepareNext.2.1 23 = .ok (.getfield 10, 3) := by decide +kernel
theorem d_Play_prepareNext_26 : decode y_Play_prepareNext.2.1 26 = .ok (.getfield 54, 3) := by decide +kernel
theorem d_Play_prepareNext_29 : decode y_Play_prepareNext.2.1 29 = .ok (.iconst 1, 1) := by decide +kernel
theorem d_Play_prepareNext_30 : decode y_Play_prepareNext.2.1 30 = .ok (.iadd, 1) := by decide +kernel
theorem d_Play_prepareNext_31 : decode y_Play_prepareNext.2.1 31 = .ok (.istore_n 1, 1) := by decide +kernel
theorem d_Play_prepareNext_32 : decode y_Play_prepareNext.2.1 32 = .ok (.iconst 0, 1) := by decide +kernel
theorem d_Play_prepareNext_33 : decode y_Play_prepareNext.2.1 33 = .ok (.istore_n 2, 1) := by decide +kernel
theorem d_Play_prepareNext_34 : decode y_Play_prepareNext.2.1 34 = .ok (.iload_n 2, 1) := by decide +kernel
theorem d_Play_prepareNext_35 : decode y_Play_prepareNext.2.1 35 = .ok (.iconst 4, 1) := by decide +kernel
theorem d_Play_prepareNext_36 : decode y_Play_prepareNext.2.1 36 = .ok (.if_icmp .ge 40, 3) := by decide +kernel
theorem d_Play_prepareNext_39 : decode y_Play_prepareNext.2.1 39 = .ok (.aload_n 0, 1) := by decide +kernel
theorem d_Play_prepareNext_40 : decode y_Play_prepareNext.2.1 40 = .ok (.getfield 51, 3) := by decide +kernel
theorem d_Play_prepareNext_43 : decode y_Play_prepareNext.2.1 43 = .ok (.iload_n 2, 1) := by decide +kernel
theorem d_Play_prepareNext_44 : decode y_Play_prepareNext.2.1 44 = .ok (.aload_n 0, 1) := by decide +kernel
theorem d_Play_prepareNext_45 : decode y_Play_prepareNext.2.1 45 = .ok (.iload_n 2, 1) := by decide +kernel
theorem d_Play_prepareNext_46 : decode y_Play_prepareNext.2.1 46 = .ok (.iload_n 1, 1) := by decide +kernel
theorem d_Play_prepareNext_47 : decode y_Play_prepareNext.2.1 47 = .ok (.invokevirtual 105, 3) := by decide +kernel
theorem d_Play_prepareNext_50 : decode y_Play_prepareNext.2.1 50 = .ok (.iastore, 1) := by decide +kernel
theorem d_Play_prepareNext_51 : decode y_Play_prepareNext.2.1 51 = .ok (.aload_n 0, 1) := by decide +kernel
theorem d_Play_prepareNext_52 : decode y_Play_prepareNext.2.1 52 = .ok (.getfield 48, 3) := by decide +kernel
theorem d_Play_prepareNext_55 : decode y_Play_prepareNext.2.1 55 = .ok (.iload_n 1, 1) := by decide +kernel
theorem d_Play_prepareNext_56 : decode y_Play_prepareNext.2.1 56 = .ok (.bipush 15, 2) := by decide +kernel
theorem d_Play_prepareNext_58 : decode y_Play_prepareNext.2.1 58 = .ok (.iand, 1) := by decide +kernel
theorem d_Play_prepareNext_59 : decode y_Play_prepareNext.2.1 59 = .ok (.iconst 4, 1) := by decide +kernel
theorem d_Play_prepareNext_60 : decode y_Play_prepareNext.2.1 60 = .ok (.imul, 1) := by decide +kernel
theorem d_Play_prepareNext_61 : decode y_Play_prepareNext.2.1 61 = .ok (.iload_n 2, 1) := by decide +kernel
theorem d_Play_prepareNext_62 : decode y_Play_prepareNext.2.1 62 = .ok (.iadd, 1) := by decide +kernel
theorem d_Play_prepareNext_63 : decode y_Play_prepareNext.2.1 63 = .ok (.aload_n 0, 1) := by decide +kernel
theorem d_Play_prepareNext_64 : decode y_Play_prepareNext.2.1 64 = .ok (.getfield 51, 3) := by decide +kernel
theorem d_Play_prepareNext_67 : decode y_Play_prepareNext.2.1 67 = .ok (.iload_n 2, 1) := by decide +kernel
theorem d_Play_prepareNext_68 : decode y_Play_prepareNext.2.1 68 = .ok (.iaload, 1) := by decide +kernel
theorem d_Play_prepareNext_69 : decode y_Play_prepareNext.2.1 69 = .ok (.iastore, 1) := by decide +kernel
theorem d_Play_prepareNext_70 : decode y_Play_prepareNext.2.1 70 = .ok (.iinc 2 1, 3) := by decide +kernel
theorem d_Play_prepareNext_73 : decode y_Play_prepareNext.2.1 73 = .ok (.goto (-39), 3) := by decide +kernel
theorem d_Play_prepareNext_76 : decode y_Play_prepareNext.2.1 76 = .ok (.return_, 1) := by decide +kernel
def y_Play_inputOf : ab_Y := (⟨"WorldEngine$Play", "inputOf", "(II)I"⟩, prog_5_method_13_code, 4, (some FieldType.int), [])
theorem d_Play_inputOf_0 : decode y_Play_inputOf.2.1 0 = .ok (.aload_n 0, 1) := by decide +kernel
theorem d_Play_inputOf_1 : decode y_Play_inputOf.2.1 1 = .ok (.getfield 45, 3) := by decide +kernel
theorem d_Play_inputOf_4 : decode y_Play_inputOf.2.1 4 = .ok (.iload_n 2, 1) := by decide +kernel
theorem d_Play_inputOf_5 : decode y_Play_inputOf.2.1 5 = .ok (.bipush 15, 2) := by decide +kernel
theorem d_Play_inputOf_7 : decode y_Play_inputOf.2.1 7 = .ok (.iand, 1) := by decide +kernel
theorem d_Play_inputOf_8 : decode y_Play_inputOf.2.1 8 = .ok (.iaload, 1) := by decide +kernel
theorem d_Play_inputOf_9 : decode y_Play_inputOf.2.1 9 = .ok (.iload_n 1, 1) := by decide +kernel
theorem d_Play_inputOf_10 : decode y_Play_inputOf.2.1 10 = .ok (.ishr, 1) := by decide +kernel
theorem d_Play_inputOf_11 : decode y_Play_inputOf.2.1 11 = .ok (.iconst 1, 1) := by decide +kernel
theorem d_Play_inputOf_12 : decode y_Play_inputOf.2.1 12 = .ok (.iand, 1) := by decide +kernel
theorem d_Play_inputOf_13 : decode y_Play_inputOf.2.1 13 = .ok (.ifCond .ne 5, 3) := by decide +kernel
theorem d_Play_inputOf_16 : decode y_Play_inputOf.2.1 16 = .ok (.iconst 0, 1) := by decide +kernel
theorem d_Play_inputOf_17 : decode y_Play_inputOf.2.1 17 = .ok (.ireturn, 1) := by decide +kernel
theorem d_Play_inputOf_18 : decode y_Play_inputOf.2.1 18 = .ok (.iload_n 2, 1) := by decide +kernel
theorem d_Play_inputOf_19 : decode y_Play_inputOf.2.1 19 = .ok (.istore_n 3, 1) := by decide +kernel
theorem d_Play_inputOf_20 : decode y_Play_inputOf.2.1 20 = .ok (.iload_n 3, 1) := by decide +kernel
theorem d_Play_inputOf_21 : decode y_Play_inputOf.2.1 21 = .ok (.aload_n 0, 1) := by decide +kernel
theorem d_Play_inputOf_22 : decode y_Play_inputOf.2.1 22 = .ok (.getfield 57, 3) := by decide +kernel
theorem d_Play_inputOf_25 : decode y_Play_inputOf.2.1 25 = .ok (.if_icmp .le 33, 3) := by decide +kernel
theorem d_Play_inputOf_28 : decode y_Play_inputOf.2.1 28 = .ok (.aload_n 0, 1) := by decide +kernel
theorem d_Play_inputOf_29 : decode y_Play_inputOf.2.1 29 = .ok (.getfield 35, 3) := by decide +kernel
theorem d_Play_inputOf_32 : decode y_Play_inputOf.2.1 32 = .ok (.iload_n 1, 1) := by decide +kernel
theorem d_Play_inputOf_33 : decode y_Play_inputOf.2.1 33 = .ok (.iload_n 3, 1) := by decide +kernel
theorem d_Play_inputOf_34 : decode y_Play_inputOf.2.1 34 = .ok (.invokestatic 91, 3) := by decide +kernel
theorem d_Play_inputOf_37 : decode y_Play_inputOf.2.1 37 = .ok (.baload, 1) := by decide +kernel
theorem d_Play_inputOf_38 : decode y_Play_inputOf.2.1 38 = .ok (.ifCond .eq 14, 3) := by decide +kernel
theorem d_Play_inputOf_41 : decode y_Play_inputOf.2.1 41 = .ok (.aload_n 0, 1) := by decide +kernel
theorem d_Play_inputOf_42 : decode y_Play_inputOf.2.1 42 = .ok (.getfield 39, 3) := by decide +kernel
theorem d_Play_inputOf_45 : decode y_Play_inputOf.2.1 45 = .ok (.iload_n 1, 1) := by decide +kernel
theorem d_Play_inputOf_46 : decode y_Play_inputOf.2.1 46 = .ok (.iload_n 3, 1) := by decide +kernel
theorem d_Play_inputOf_47 : decode y_Play_inputOf.2.1 47 = .ok (.invokestatic 91, 3) := by decide +kernel
theorem d_Play_inputOf_50 : decode y_Play_inputOf.2.1 50 = .ok (.iaload, 1) := by decide +kernel
theorem d_Play_inputOf_51 : decode y_Play_inputOf.2.1 51 = .ok (.ireturn, 1) := by decide +kernel
theorem d_Play_inputOf_52 : decode y_Play_inputOf.2.1 52 = .ok (.iinc 3 (-1), 3) := by decide +kernel
theorem d_Play_inputOf_55 : decode y_Play_inputOf.2.1 55 = .ok (.goto (-35), 3) := by decide +kernel
theorem d_Play_inputOf_58 : decode y_Play_inputOf.2.1 58 = .ok (.aload_n 0, 1) := by decide +kernel
theorem d_Play_inputOf_59 : decode y_Play_inputOf.2.1 59 = .ok (.getfield 42, 3) := by decide +kernel
theorem d_Play_inputOf_62 : decode y_Play_inputOf.2.1 62 = .ok (.iload_n 1, 1) := by decide +kernel
theorem d_Play_inputOf_63 : decode y_Play_inputOf.2.1 63 = .ok (.iaload, 1) := by decide +kernel
theorem d_Play_inputOf_64 : decode y_Play_inputOf.2.1 64 = .ok (.ireturn, 1) := by decide +kernel
def y_Play_slot : ab_Y := (⟨"WorldEngine$Play", "slot", "(II)I"⟩, prog_5_method_10_code, 2, (some FieldType.int), [])
theorem d_Play_slot_0 : decode y_Play_slot.2.1 0 = .ok (.iload_n 0, 1) := by decide +kernel
theorem d_Play_slot_1 : decode y_Play_slot.2.1 1 = .ok (.bipush 64, 2) := by decide +kernel
theorem d_Play_slot_3 : decode y_Play_slot.2.1 3 = .ok (.imul, 1) := by decide +kernel
theorem d_Play_slot_4 : decode y_Play_slot.2.1 4 = .ok (.iload_n 1, 1) := by decide +kernel
theorem d_Play_slot_5 : decode y_Play_slot.2.1 5 = .ok (.bipush 63, 2) := by decide +kernel
theorem d_Play_slot_7 : decode y_Play_slot.2.1 7 = .ok (.iand, 1) := by decide +kernel
theorem d_Play_slot_8 : decode y_Play_slot.2.1 8 = .ok (.iadd, 1) := by decide +kernel
theorem d_Play_slot_9 : decode y_Play_slot.2.1 9 = .ok (.ireturn, 1) := by decide +kernel
def y_Play_confirm : ab_Y := (⟨"WorldEngine$Play", "confirm", "()V"⟩, prog_5_method_17_code, 4, none, [])
theorem d_Play_confirm_0 : decode y_Play_confirm.2.1 0 = .ok (.iconst 0, 1) := by decide +kernel
theorem d_Play_confirm_1 : decode y_Play_confirm.2.1 1 = .ok (.istore_n 1, 1) := by decide +kernel
theorem d_Play_confirm_2 : decode y_Play_confirm.2.1 2 = .ok (.iload_n 1, 1) := by decide +kernel
theorem d_Play_confirm_3 : decode y_Play_confirm.2.1 3 = .ok (.bipush 16, 2) := by decide +kernel
theorem d_Play_confirm_5 : decode y_Play_confirm.2.1 5 = .ok (.if_icmp .ge 133, 3) := by decide +kernel
theorem d_Play_confirm_8 : decode y_Play_confirm.2.1 8 = .ok (.aload_n 0, 1) := by decide +kernel
theorem d_Play_confirm_9 : decode y_Play_confirm.2.1 9 = .ok (.getfield 57, 3) := by decide +kernel
theorem d_Play_confirm_12 : decode y_Play_confirm.2.1 12 = .ok (.aload_n 0, 1) := by decide +kernel
theorem d_Play_confirm_13 : decode y_Play_confirm.2.1 13 = .ok (.getfield 10, 3) := by decide +kernel
theorem d_Play_confirm_16 : decode y_Play_confirm.2.1 16 = .ok (.getfield 54, 3) := by decide +kernel
theorem d_Play_confirm_19 : decode y_Play_confirm.2.1 19 = .ok (.if_icmp .ge 119, 3) := by decide +kernel
theorem d_Play_confirm_22 : decode y_Play_confirm.2.1 22 = .ok (.aload_n 0, 1) := by decide +kernel
theorem d_Play_confirm_23 : decode y_Play_confirm.2.1 23 = .ok (.aload_n 0, 1) := by decide +kernel
theorem d_Play_confirm_24 : decode y_Play_confirm.2.1 24 = .ok (.getfield 57, 3) := by decide +kernel
theorem d_Play_confirm_27 : decode y_Play_confirm.2.1 27 = .ok (.iconst 1, 1) := by decide +kernel
theorem d_Play_confirm_28 : decode y_Play_confirm.2.1 28 = .ok (.iadd, 1) := by decide +kernel
theorem d_Play_confirm_29 : decode y_Play_confirm.2.1 29 = .ok (.invokevirtual 116, 3) := by decide +kernel
theorem d_Play_confirm_32 : decode y_Play_confirm.2.1 32 = .ok (.ifCond .eq 106, 3) := by decide +kernel
theorem d_Play_confirm_35 : decode y_Play_confirm.2.1 35 = .ok (.aload_n 0, 1) := by decide +kernel
theorem d_Play_confirm_36 : decode y_Play_confirm.2.1 36 = .ok (.dup, 1) := by decide +kernel
theorem d_Play_confirm_37 : decode y_Play_confirm.2.1 37 = .ok (.getfield 57, 3) := by decide +kernel
theorem d_Play_confirm_40 : decode y_Play_confirm.2.1 40 = .ok (.iconst 1, 1) := by decide +kernel
theorem d_Play_confirm_41 : decode y_Play_confirm.2.1 41 = .ok (.iadd, 1) := by decide +kernel
theorem d_Play_confirm_42 : decode y_Play_confirm.2.1 42 = .ok (.putfield 57, 3) := by decide +kernel
theorem d_Play_confirm_45 : decode y_Play_confirm.2.1 45 = .ok (.iconst 0, 1) := by decide +kernel
theorem d_Play_confirm_46 : decode y_Play_confirm.2.1 46 = .ok (.istore_n 2, 1) := by decide +kernel
theorem d_Play_confirm_47 : decode y_Play_confirm.2.1 47 = .ok (.iload_n 2, 1) := by decide +kernel
theorem d_Play_confirm_48 : decode y_Play_confirm.2.1 48 = .ok (.iconst 4, 1) := by decide +kernel
theorem d_Play_confirm_49 : decode y_Play_confirm.2.1 49 = .ok (.if_icmp .ge 46, 3) := by decide +kernel
theorem d_Play_confirm_52 : decode y_Play_confirm.2.1 52 = .ok (.iload_n 2, 1) := by decide +kernel
theorem d_Play_confirm_53 : decode y_Play_confirm.2.1 53 = .ok (.aload_n 0, 1) := by decide +kernel
theorem d_Play_confirm_54 : decode y_Play_confirm.2.1 54 = .ok (.getfield 57, 3) := by decide +kernel
theorem d_Play_confirm_57 : decode y_Play_confirm.2.1 57 = .ok (.invokestatic 91, 3) := by decide +kernel
theorem d_Play_confirm_60 : decode y_Play_confirm.2.1 60 = .ok (.istore_n 3, 1) := by decide +kernel
theorem d_Play_confirm_61 : decode y_Play_confirm.2.1 61 = .ok (.aload_n 0, 1) := by decide +kernel
theorem d_Play_confirm_62 : decode y_Play_confirm.2.1 62 = .ok (.getfield 35, 3) := by decide +kernel
theorem d_Play_confirm_65 : decode y_Play_confirm.2.1 65 = .ok (.iload_n 3, 1) := by decide +kernel
theorem d_Play_confirm_66 : decode y_Play_confirm.2.1 66 = .ok (.baload, 1) := by decide +kernel
theorem d_Play_confirm_67 : decode y_Play_confirm.2.1 67 = .ok (.ifCond .eq 22, 3) := by decide +kernel
theorem d_Play_confirm_70 : decode y_Play_confirm.2.1 70 = .ok (.aload_n 0, 1) := by decide +kernel
theorem d_Play_confirm_71 : decode y_Play_confirm.2.1 71 = .ok (.getfield 42, 3) := by decide +kernel
theorem d_Play_confirm_74 : decode y_Play_confirm.2.1 74 = .ok (.iload_n 2, 1) := by decide +kernel
theorem d_Play_confirm_75 : decode y_Play_confirm.2.1 75 = .ok (.aload_n 0, 1) := by decide +kernel
theorem d_Play_confirm_76 : decode y_Play_confirm.2.1 76 = .ok (.getfield 39, 3) := by decide +kernel
theorem d_Play_confirm_79 : decode y_Play_confirm.2.1 79 = .ok (.iload_n 3, 1) := by decide +kernel
theorem d_Play_confirm_80 : decode y_Play_confirm.2.1 80 = .ok (.iaload, 1) := by decide +kernel
theorem d_Play_confirm_81 : decode y_Play_confirm.2.1 81 = .ok (.iastore, 1) := by decide +kernel
theorem d_Play_confirm_82 : decode y_Play_confirm.2.1 82 = .ok (.aload_n 0, 1) := by decide +kernel
theorem d_Play_confirm_83 : decode y_Play_confirm.2.1 83 = .ok (.getfield 35, 3) := by decide +kernel
theorem d_Play_confirm_86 : decode y_Play_confirm.2.1 86 = .ok (.iload_n 3, 1) := by decide +kernel
theorem d_Play_confirm_87 : decode y_Play_confirm.2.1 87 = .ok (.iconst 0, 1) := by decide +kernel
theorem d_Play_confirm_88 : decode y_Play_confirm.2.1 88 = .ok (.bastore, 1) := by decide +kernel
theorem d_Play_confirm_89 : decode y_Play_confirm.2.1 89 = .ok (.iinc 2 1, 3) := by decide +kernel
theorem d_Play_confirm_92 : decode y_Play_confirm.2.1 92 = .ok (.goto (-45), 3) := by decide +kernel
theorem d_Play_confirm_95 : decode y_Play_confirm.2.1 95 = .ok (.aload_n 0, 1) := by decide +kernel
theorem d_Play_confirm_96 : decode y_Play_confirm.2.1 96 = .ok (.aload_n 0, 1) := by decide +kernel
theorem d_Play_confirm_97 : decode y_Play_confirm.2.1 97 = .ok (.getfield 57, 3) := by decide +kernel
theorem d_Play_confirm_100 : decode y_Play_confirm.2.1 100 = .ok (.aload_n 0, 1) := by decide +kernel
theorem d_Play_confirm_101 : decode y_Play_confirm.2.1 101 = .ok (.getfield 10, 3) := by decide +kernel
theorem d_Play_confirm_104 : decode y_Play_confirm.2.1 104 = .ok (.getfield 54, 3) := by decide +kernel
theorem d_Play_confirm_107 : decode y_Play_confirm.2.1 107 = .ok (.if_icmp .ne 10, 3) := by decide +kernel
theorem d_Play_confirm_110 : decode y_Play_confirm.2.1 110 = .ok (.aload_n 0, 1) := by decide +kernel
theorem d_Play_confirm_111 : decode y_Play_confirm.2.1 111 = .ok (.getfield 10, 3) := by decide +kernel
theorem d_Play_confirm_114 : decode y_Play_confirm.2.1 114 = .ok (.goto 15, 3) := by decide +kernel
theorem d_Play_confirm_117 : decode y_Play_confirm.2.1 117 = .ok (.aload_n 0, 1) := by decide +kernel
theorem d_Play_confirm_118 : decode y_Play_confirm.2.1 118 = .ok (.getfield 16, 3) := by decide +kernel
theorem d_Play_confirm_121 : decode y_Play_confirm.2.1 121 = .ok (.aload_n 0, 1) := by decide +kernel
theorem d_Play_confirm_122 : decode y_Play_confirm.2.1 122 = .ok (.getfield 57, 3) := by decide +kernel
theorem d_Play_confirm_125 : decode y_Play_confirm.2.1 125 = .ok (.bipush 15, 2) := by decide +kernel
theorem d_Play_confirm_127 : decode y_Play_confirm.2.1 127 = .ok (.iand, 1) := by decide +kernel
theorem d_Play_confirm_128 : decode y_Play_confirm.2.1 128 = .ok (.aaload, 1) := by decide +kernel
theorem d_Play_confirm_129 : decode y_Play_confirm.2.1 129 = .ok (.invokevirtual 120, 3) := by decide +kernel
theorem d_Play_confirm_132 : decode y_Play_confirm.2.1 132 = .ok (.iinc 1 1, 3) := by decide +kernel
theorem d_Play_confirm_135 : decode y_Play_confirm.2.1 135 = .ok (.goto (-133), 3) := by decide +kernel
theorem d_Play_confirm_138 : decode y_Play_confirm.2.1 138 = .ok (.return_, 1) := by decide +kernel
def y_Play_isKnown : ab_Y := (⟨"WorldEngine$Play", "isKnown", "(I)Z"⟩, prog_5_method_18_code, 3, (some FieldType.boolean), [])
theorem d_Play_isKnown_0 : decode y_Play_isKnown.2.1 0 = .ok (.iconst 0, 1) := by decide +kernel
theorem d_Play_isKnown_1 : decode y_Play_isKnown.2.1 1 = .ok (.istore_n 2, 1) := by decide +kernel
theorem d_Play_isKnown_2 : decode y_Play_isKnown.2.1 2 = .ok (.iload_n 2, 1) := by decide +kernel
theorem d_Play_isKnown_3 : decode y_Play_isKnown.2.1 3 = .ok (.iconst 4, 1) := by decide +kernel
theorem d_Play_isKnown_4 : decode y_Play_isKnown.2.1 4 = .ok (.if_icmp .ge 41, 3) := by decide +kernel
theorem d_Play_isKnown_7 : decode y_Play_isKnown.2.1 7 = .ok (.aload_n 0, 1) := by decide +kernel
theorem d_Play_isKnown_8 : decode y_Play_isKnown.2.1 8 = .ok (.getfield 45, 3) := by decide +kernel
theorem d_Play_isKnown_11 : decode y_Play_isKnown.2.1 11 = .ok (.iload_n 1, 1) := by decide +kernel
theorem d_Play_isKnown_12 : decode y_Play_isKnown.2.1 12 = .ok (.bipush 15, 2) := by decide +kernel
theorem d_Play_isKnown_14 : decode y_Play_isKnown.2.1 14 = .ok (.iand, 1) := by decide +kernel
theorem d_Play_isKnown_15 : decode y_Play_isKnown.2.1 15 = .ok (.iaload, 1) := by decide +kernel
theorem d_Play_isKnown_16 : decode y_Play_isKnown.2.1 16 = .ok (.iload_n 2, 1) := by decide +kernel
theorem d_Play_isKnown_17 : decode y_Play_isKnown.2.1 17 = .ok (.ishr, 1) := by decide +kernel
theorem d_Play_isKnown_18 : decode y_Play_isKnown.2.1 18 = .ok (.iconst 1, 1) := by decide +kernel
theorem d_Play_isKnown_19 : decode y_Play_isKnown.2.1 19 = .ok (.iand, 1) := by decide +kernel
theorem d_Play_isKnown_20 : decode y_Play_isKnown.2.1 20 = .ok (.iconst 1, 1) := by decide +kernel
theorem d_Play_isKnown_21 : decode y_Play_isKnown.2.1 21 = .ok (.if_icmp .ne 18, 3) := by decide +kernel
theorem d_Play_isKnown_24 : decode y_Play_isKnown.2.1 24 = .ok (.aload_n 0, 1) := by decide +kernel
theorem d_Play_isKnown_25 : decode y_Play_isKnown.2.1 25 = .ok (.getfield 35, 3) := by decide +kernel
theorem d_Play_isKnown_28 : decode y_Play_isKnown.2.1 28 = .ok (.iload_n 2, 1) := by decide +kernel
theorem d_Play_isKnown_29 : decode y_Play_isKnown.2.1 29 = .ok (.iload_n 1, 1) := by decide +kernel
theorem d_Play_isKnown_30 : decode y_Play_isKnown.2.1 30 = .ok (.invokestatic 91, 3) := by decide +kernel
theorem d_Play_isKnown_33 : decode y_Play_isKnown.2.1 33 = .ok (.baload, 1) := by decide +kernel
theorem d_Play_isKnown_34 : decode y_Play_isKnown.2.1 34 = .ok (.ifCond .ne 5, 3) := by decide +kernel
theorem d_Play_isKnown_37 : decode y_Play_isKnown.2.1 37 = .ok (.iconst 0, 1) := by decide +kernel
theorem d_Play_isKnown_38 : decode y_Play_isKnown.2.1 38 = .ok (.ireturn, 1) := by decide +kernel
theorem d_Play_isKnown_39 : decode y_Play_isKnown.2.1 39 = .ok (.iinc 2 1, 3) := by decide +kernel
theorem d_Play_isKnown_42 : decode y_Play_isKnown.2.1 42 = .ok (.goto (-40), 3) := by decide +kernel
theorem d_Play_isKnown_45 : decode y_Play_isKnown.2.1 45 = .ok (.iconst 1, 1) := by decide +kernel
theorem d_Play_isKnown_46 : decode y_Play_isKnown.2.1 46 = .ok (.ireturn, 1) := by decide +kernel
def y_Play_tell : ab_Y := (⟨"WorldEngine$Play", "tell", "(LWorldEngine$World;)V"⟩, prog_5_method_19_code, 3, none, [])
theorem d_Play_tell_0 : decode y_Play_tell.2.1 0 = .ok (.iconst 0, 1) := by decide +kernel
theorem d_Play_tell_1 : decode y_Play_tell.2.1 1 = .ok (.istore_n 2, 1) := by decide +kernel
theorem d_Play_tell_2 : decode y_Play_tell.2.1 2 = .ok (.iload_n 2, 1) := by decide +kernel
theorem d_Play_tell_3 : decode y_Play_tell.2.1 3 = .ok (.aload_n 1, 1) := by decide +kernel
theorem d_Play_tell_4 : decode y_Play_tell.2.1 4 = .ok (.getfield 123, 3) := by decide +kernel
theorem d_Play_tell_7 : decode y_Play_tell.2.1 7 = .ok (.if_icmp .ge 38, 3) := by decide +kernel
theorem d_Play_tell_10 : decode y_Play_tell.2.1 10 = .ok (.aload_n 0, 1) := by decide +kernel
theorem d_Play_tell_11 : decode y_Play_tell.2.1 11 = .ok (.getfield 24, 3) := by decide +kernel
theorem d_Play_tell_14 : decode y_Play_tell.2.1 14 = .ok (.aload_n 0, 1) := by decide +kernel
theorem d_Play_tell_15 : decode y_Play_tell.2.1 15 = .ok (.getfield 64, 3) := by decide +kernel
theorem d_Play_tell_18 : decode y_Play_tell.2.1 18 = .ok (.sipush 255, 3) := by decide +kernel
theorem d_Play_tell_21 : decode y_Play_tell.2.1 21 = .ok (.iand, 1) := by decide +kernel
theorem d_Play_tell_22 : decode y_Play_tell.2.1 22 = .ok (.aload_n 1, 1) := by decide +kernel
theorem d_Play_tell_23 : decode y_Play_tell.2.1 23 = .ok (.getfield 126, 3) := by decide +kernel
theorem d_Play_tell_26 : decode y_Play_tell.2.1 26 = .ok (.iload_n 2, 1) := by decide +kernel
theorem d_Play_tell_27 : decode y_Play_tell.2.1 27 = .ok (.iaload, 1) := by decide +kernel
theorem d_Play_tell_28 : decode y_Play_tell.2.1 28 = .ok (.iastore, 1) := by decide +kernel
theorem d_Play_tell_29 : decode y_Play_tell.2.1 29 = .ok (.aload_n 0, 1) := by decide +kernel
theorem d_Play_tell_30 : decode y_Play_tell.2.1 30 = .ok (.dup, 1) := by decide +kernel
theorem d_Play_tell_31 : decode y_Play_tell.2.1 31 = .ok (.getfield 64, 3) := by decide +kernel
theorem d_Play_tell_34 : decode y_Play_tell.2.1 34 = .ok (.iconst 1, 1) := by decide +kernel
theorem d_Play_tell_35 : decode y_Play_tell.2.1 35 = .ok (.iadd, 1) := by decide +kernel
theorem d_Play_tell_36 : decode y_Play_tell.2.1 36 = .ok (.putfield 64, 3) := by decide +kernel
theorem d_Play_tell_39 : decode y_Play_tell.2.1 39 = .ok (.iinc 2 1, 3) := by decide +kernel
theorem d_Play_tell_42 : decode y_Play_tell.2.1 42 = .ok (.goto (-40), 3) := by decide +kernel
theorem d_Play_tell_45 : decode y_Play_tell.2.1 45 = .ok (.return_, 1) := by decide +kernel
def y_Play_refusal : ab_Y := (⟨"WorldEngine$Play", "refusal", "(II)I"⟩, prog_5_method_14_code, 4, (some FieldType.int), [])
theorem d_Play_refusal_0 : decode y_Play_refusal.2.1 0 = .ok (.iload_n 1, 1) := by decide +kernel
theorem d_Play_refusal_1 : decode y_Play_refusal.2.1 1 = .ok (.ifCond .lt 8, 3) := by decide +kernel
theorem d_Play_refusal_4 : decode y_Play_refusal.2.1 4 = .ok (.iload_n 1, 1) := by decide +kernel
theorem d_Play_refusal_5 : decode y_Play_refusal.2.1 5 = .ok (.iconst 4, 1) := by decide +kernel
theorem d_Play_refusal_6 : decode y_Play_refusal.2.1 6 = .ok (.if_icmp .lt 5, 3) := by decide +kernel
theorem d_Play_refusal_9 : decode y_Play_refusal.2.1 9 = .ok (.iconst (-1), 1) := by decide +kernel
theorem d_Play_refusal_10 : decode y_Play_refusal.2.1 10 = .ok (.ireturn, 1) := by decide +kernel
theorem d_Play_refusal_11 : decode y_Play_refusal.2.1 11 = .ok (.iload_n 2, 1) := by decide +kernel
theorem d_Play_refusal_12 : decode y_Play_refusal.2.1 12 = .ok (.aload_n 0, 1) := by decide +kernel
theorem d_Play_refusal_13 : decode y_Play_refusal.2.1 13 = .ok (.getfield 57, 3) := by decide +kernel
theorem d_Play_refusal_16 : decode y_Play_refusal.2.1 16 = .ok (.if_icmp .le 17, 3) := by decide +kernel
theorem d_Play_refusal_19 : decode y_Play_refusal.2.1 19 = .ok (.iload_n 2, 1) := by decide +kernel
theorem d_Play_refusal_20 : decode y_Play_refusal.2.1 20 = .ok (.aload_n 0, 1) := by decide +kernel
theorem d_Play_refusal_21 : decode y_Play_refusal.2.1 21 = .ok (.getfield 10, 3) := by decide +kernel
theorem d_Play_refusal_24 : decode y_Play_refusal.2.1 24 = .ok (.getfield 54, 3) := by decide +kernel
theorem d_Play_refusal_27 : decode y_Play_refusal.2.1 27 = .ok (.bipush 16, 2) := by decide +kernel
theorem d_Play_refusal_29 : decode y_Play_refusal.2.1 29 = .ok (.iadd, 1) := by decide +kernel
theorem d_Play_refusal_30 : decode y_Play_refusal.2.1 30 = .ok (.if_icmp .le 6, 3) := by decide +kernel
theorem d_Play_refusal_33 : decode y_Play_refusal.2.1 33 = .ok (.bipush (-2), 2) := by decide +kernel
theorem d_Play_refusal_35 : decode y_Play_refusal.2.1 35 = .ok (.ireturn, 1) := by decide +kernel
theorem d_Play_refusal_36 : decode y_Play_refusal.2.1 36 = .ok (.iload_n 2, 1) := by decide +kernel
theorem d_Play_refusal_37 : decode y_Play_refusal.2.1 37 = .ok (.aload_n 0, 1) := by decide +kernel
theorem d_Play_refusal_38 : decode y_Play_refusal.2.1 38 = .ok (.getfield 10, 3) := by decide +kernel
theorem d_Play_refusal_41 : decode y_Play_refusal.2.1 41 = .ok (.getfield 54, 3) := by decide +kernel
theorem d_Play_refusal_44 : decode y_Play_refusal.2.1 44 = .ok (.if_icmp .le 10, 3) := by decide +kernel
theorem d_Play_refusal_47 : decode y_Play_refusal.2.1 47 = .ok (.aload_n 0, 1) := by decide +kernel
theorem d_Play_refusal_48 : decode y_Play_refusal.2.1 48 = .ok (.getfield 20, 3) := by decide +kernel
theorem d_Play_refusal_51 : decode y_Play_refusal.2.1 51 = .ok (.goto 12, 3) := by decide +kernel
theorem d_Play_refusal_54 : decode y_Play_refusal.2.1 54 = .ok (.aload_n 0, 1) := by decide +kernel
theorem d_Play_refusal_55 : decode y_Play_refusal.2.1 55 = .ok (.getfield 45, 3) := by decide +kernel
theorem d_Play_refusal_58 : decode y_Play_refusal.2.1 58 = .ok (.iload_n 2, 1) := by decide +kernel
theorem d_Play_refusal_59 : decode y_Play_refusal.2.1 59 = .ok (.bipush 15, 2) := by decide +kernel
theorem d_Play_refusal_61 : decode y_Play_refusal.2.1 61 = .ok (.iand, 1) := by decide +kernel
theorem d_Play_refusal_62 : decode y_Play_refusal.2.1 62 = .ok (.iaload, 1) := by decide +kernel
theorem d_Play_refusal_63 : decode y_Play_refusal.2.1 63 = .ok (.istore_n 3, 1) := by decide +kernel
theorem d_Play_refusal_64 : decode y_Play_refusal.2.1 64 = .ok (.iload_n 3, 1) := by decide +kernel
theorem d_Play_refusal_65 : decode y_Play_refusal.2.1 65 = .ok (.iload_n 1, 1) := by decide +kernel
theorem d_Play_refusal_66 : decode y_Play_refusal.2.1 66 = .ok (.ishr, 1) := by decide +kernel
theorem d_Play_refusal_67 : decode y_Play_refusal.2.1 67 = .ok (.iconst 1, 1) := by decide +kernel
theorem d_Play_refusal_68 : decode y_Play_refusal.2.1 68 = .ok (.iand, 1) := by decide +kernel
theorem d_Play_refusal_69 : decode y_Play_refusal.2.1 69 = .ok (.ifCond .ne 6, 3) := by decide +kernel
theorem d_Play_refusal_72 : decode y_Play_refusal.2.1 72 = .ok (.bipush (-3), 2) := by decide +kernel
theorem d_Play_refusal_74 : decode y_Play_refusal.2.1 74 = .ok (.ireturn, 1) := by decide +kernel
theorem d_Play_refusal_75 : decode y_Play_refusal.2.1 75 = .ok (.aload_n 0, 1) := by decide +kernel
theorem d_Play_refusal_76 : decode y_Play_refusal.2.1 76 = .ok (.getfield 35, 3) := by decide +kernel
theorem d_Play_refusal_79 : decode y_Play_refusal.2.1 79 = .ok (.iload_n 1, 1) := by decide +kernel
theorem d_Play_refusal_80 : decode y_Play_refusal.2.1 80 = .ok (.iload_n 2, 1) := by decide +kernel
theorem d_Play_refusal_81 : decode y_Play_refusal.2.1 81 = .ok (.invokestatic 91, 3) := by decide +kernel
theorem d_Play_refusal_84 : decode y_Play_refusal.2.1 84 = .ok (.baload, 1) := by decide +kernel
theorem d_Play_refusal_85 : decode y_Play_refusal.2.1 85 = .ok (.ifCond .eq 8, 3) := by decide +kernel
theorem d_Play_refusal_88 : decode y_Play_refusal.2.1 88 = .ok (.bipush (-4), 2) := by decide +kernel
theorem d_Play_refusal_90 : decode y_Play_refusal.2.1 90 = .ok (.goto 4, 3) := by decide +kernel
theorem d_Play_refusal_93 : decode y_Play_refusal.2.1 93 = .ok (.iconst 0, 1) := by decide +kernel
theorem d_Play_refusal_94 : decode y_Play_refusal.2.1 94 = .ok (.ireturn, 1) := by decide +kernel
def y_Play_accept : ab_Y := (⟨"WorldEngine$Play", "accept", "(LWorldEngine$Program;III)I"⟩, prog_5_method_15_code, 9, (some FieldType.int), [])
theorem d_Play_accept_0 : decode y_Play_accept.2.1 0 = .ok (.aload_n 0, 1) := by decide +kernel
theorem d_Play_accept_1 : decode y_Play_accept.2.1 1 = .ok (.getfield 35, 3) := by decide +kernel
theorem d_Play_accept_4 : decode y_Play_accept.2.1 4 = .ok (.iload_n 2, 1) := by decide +kernel
theorem d_Play_accept_5 : decode y_Play_accept.2.1 5 = .ok (.iload_n 3, 1) := by decide +kernel
theorem d_Play_accept_6 : decode y_Play_accept.2.1 6 = .ok (.invokestatic 91, 3) := by decide +kernel
theorem d_Play_accept_9 : decode y_Play_accept.2.1 9 = .ok (.iconst 1, 1) := by decide +kernel
theorem d_Play_accept_10 : decode y_Play_accept.2.1 10 = .ok (.bastore, 1) := by decide +kernel
theorem d_Play_accept_11 : decode y_Play_accept.2.1 11 = .ok (.aload_n 0, 1) := by decide +kernel
theorem d_Play_accept_12 : decode y_Play_accept.2.1 12 = .ok (.getfield 39, 3) := by decide +kernel
theorem d_Play_accept_15 : decode y_Play_accept.2.1 15 = .ok (.iload_n 2, 1) := by decide +kernel
theorem d_Play_accept_16 : decode y_Play_accept.2.1 16 = .ok (.iload_n 3, 1) := by decide +kernel
theorem d_Play_accept_17 : decode y_Play_accept.2.1 17 = .ok (.invokestatic 91, 3) := by decide +kernel
theorem d_Play_accept_20 : decode y_Play_accept.2.1 20 = .ok (.iload 4, 2) := by decide +kernel
theorem d_Play_accept_22 : decode y_Play_accept.2.1 22 = .ok (.iastore, 1) := by decide +kernel
theorem d_Play_accept_23 : decode y_Play_accept.2.1 23 = .ok (.aload_n 0, 1) := by decide +kernel
theorem d_Play_accept_24 : decode y_Play_accept.2.1 24 = .ok (.getfield 10, 3) := by decide +kernel
theorem d_Play_accept_27 : decode y_Play_accept.2.1 27 = .ok (.getfield 54, 3) := by decide +kernel
theorem d_Play_accept_30 : decode y_Play_accept.2.1 30 = .ok (.istore 5, 2) := by decide +kernel
theorem d_Play_accept_32 : decode y_Play_accept.2.1 32 = .ok (.aload_n 0, 1) := by decide +kernel
theorem d_Play_accept_33 : decode y_Play_accept.2.1 33 = .ok (.iload_n 2, 1) := by decide +kernel
theorem d_Play_accept_34 : decode y_Play_accept.2.1 34 = .ok (.iload_n 3, 1) := by decide +kernel
theorem d_Play_accept_35 : decode y_Play_accept.2.1 35 = .ok (.invokevirtual 108, 3) := by decide +kernel
theorem d_Play_accept_38 : decode y_Play_accept.2.1 38 = .ok (.istore 6, 2) := by decide +kernel
theorem d_Play_accept_40 : decode y_Play_accept.2.1 40 = .ok (.iconst 0, 1) := by decide +kernel
theorem d_Play_accept_41 : decode y_Play_accept.2.1 41 = .ok (.iload 5, 2) := by decide +kernel
theorem d_Play_accept_43 : decode y_Play_accept.2.1 43 = .ok (.iload 6, 2) := by decide +kernel
theorem d_Play_accept_45 : decode y_Play_accept.2.1 45 = .ok (.isub, 1) := by decide +kernel
theorem d_Play_accept_46 : decode y_Play_accept.2.1 46 = .ok (.iconst 1, 1) := by decide +kernel
theorem d_Play_accept_47 : decode y_Play_accept.2.1 47 = .ok (.iadd, 1) := by decide +kernel
theorem d_Play_accept_48 : decode y_Play_accept.2.1 48 = .ok (.invokestatic 111, 3) := by decide +kernel
theorem d_Play_accept_51 : decode y_Play_accept.2.1 51 = .ok (.istore 7, 2) := by decide +kernel
theorem d_Play_accept_53 : decode y_Play_accept.2.1 53 = .ok (.iload 7, 2) := by decide +kernel
theorem d_Play_accept_55 : decode y_Play_accept.2.1 55 = .ok (.ifCond .le 22, 3) := by decide +kernel
theorem d_Play_accept_58 : decode y_Play_accept.2.1 58 = .ok (.aload_n 0, 1) := by decide +kernel
theorem d_Play_accept_59 : decode y_Play_accept.2.1 59 = .ok (.getfield 10, 3) := by decide +kernel
theorem d_Play_accept_62 : decode y_Play_accept.2.1 62 = .ok (.aload_n 0, 1) := by decide +kernel
theorem d_Play_accept_63 : decode y_Play_accept.2.1 63 = .ok (.getfield 16, 3) := by decide +kernel
theorem d_Play_accept_66 : decode y_Play_accept.2.1 66 = .ok (.iload 6, 2) := by decide +kernel
theorem d_Play_accept_68 : decode y_Play_accept.2.1 68 = .ok (.iconst 1, 1) := by decide +kernel
theorem d_Play_accept_69 : decode y_Play_accept.2.1 69 = .ok (.isub, 1) := by decide +kernel
theorem d_Play_accept_70 : decode y_Play_accept.2.1 70 = .ok (.bipush 15, 2) := by decide +kernel
theorem d_Play_accept_72 : decode y_Play_accept.2.1 72 = .ok (.iand, 1) := by decide +kernel
theorem d_Play_accept_73 : decode y_Play_accept.2.1 73 = .ok (.aaload, 1) := by decide +kernel
theorem d_Play_accept_74 : decode y_Play_accept.2.1 74 = .ok (.invokevirtual 83, 3) := by decide +kernel
theorem d_Play_accept_77 : decode y_Play_accept.2.1 77 = .ok (.iconst 0, 1) := by decide +kernel
theorem d_Play_accept_78 : decode y_Play_accept.2.1 78 = .ok (.istore 8, 2) := by decide +kernel
theorem d_Play_accept_80 : decode y_Play_accept.2.1 80 = .ok (.iload 8, 2) := by decide +kernel
theorem d_Play_accept_82 : decode y_Play_accept.2.1 82 = .ok (.iload 7, 2) := by decide +kernel
theorem d_Play_accept_84 : decode y_Play_accept.2.1 84 = .ok (.if_icmp .ge 29, 3) := by decide +kernel
theorem d_Play_accept_87 : decode y_Play_accept.2.1 87 = .ok (.aload_n 0, 1) := by decide +kernel
theorem d_Play_accept_88 : decode y_Play_accept.2.1 88 = .ok (.invokevirtual 95, 3) := by decide +kernel
theorem d_Play_accept_91 : decode y_Play_accept.2.1 91 = .ok (.aload_n 0, 1) := by decide +kernel
theorem d_Play_accept_92 : decode y_Play_accept.2.1 92 = .ok (.getfield 31, 3) := by decide +kernel
theorem d_Play_accept_95 : decode y_Play_accept.2.1 95 = .ok (.aload_n 1, 1) := by decide +kernel
theorem d_Play_accept_96 : decode y_Play_accept.2.1 96 = .ok (.aload_n 0, 1) := by decide +kernel
theorem d_Play_accept_97 : decode y_Play_accept.2.1 97 = .ok (.getfield 10, 3) := by decide +kernel
theorem d_Play_accept_100 : decode y_Play_accept.2.1 100 = .ok (.aload_n 0, 1) := by decide +kernel
theorem d_Play_accept_101 : decode y_Play_accept.2.1 101 = .ok (.getfield 51, 3) := by decide +kernel
theorem d_Play_accept_104 : decode y_Play_accept.2.1 104 = .ok (.invokevirtual 98, 3) := by decide +kernel
theorem d_Play_accept_107 : decode y_Play_accept.2.1 107 = .ok (.iinc 8 1, 3) := by decide +kernel
theorem d_Play_accept_110 : decode y_Play_accept.2.1 110 = .ok (.goto (-30), 3) := by decide +kernel
theorem d_Play_accept_113 : decode y_Play_accept.2.1 113 = .ok (.aload_n 0, 1) := by decide +kernel
theorem d_Play_accept_114 : decode y_Play_accept.2.1 114 = .ok (.dup, 1) := by decide +kernel
theorem d_Play_accept_115 : decode y_Play_accept.2.1 115 = .ok (.getfield 67, 3) := by decide +kernel
theorem d_Play_accept_118 : decode y_Play_accept.2.1 118 = .ok (.iload 7, 2) := by decide +kernel
theorem d_Play_accept_120 : decode y_Play_accept.2.1 120 = .ok (.iadd, 1) := by decide +kernel
theorem d_Play_accept_121 : decode y_Play_accept.2.1 121 = .ok (.putfield 67, 3) := by decide +kernel
theorem d_Play_accept_124 : decode y_Play_accept.2.1 124 = .ok (.aload_n 0, 1) := by decide +kernel
theorem d_Play_accept_125 : decode y_Play_accept.2.1 125 = .ok (.invokevirtual 102, 3) := by decide +kernel
theorem d_Play_accept_128 : decode y_Play_accept.2.1 128 = .ok (.iload 7, 2) := by decide +kernel
theorem d_Play_accept_130 : decode y_Play_accept.2.1 130 = .ok (.ireturn, 1) := by decide +kernel
def y_Play_firstWrong : ab_Y := (⟨"WorldEngine$Play", "firstWrong", "(II)I"⟩, prog_5_method_16_code, 4, (some FieldType.int), [])
theorem d_Play_firstWrong_0 : decode y_Play_firstWrong.2.1 0 = .ok (.iload_n 2, 1) := by decide +kernel
theorem d_Play_firstWrong_1 : decode y_Play_firstWrong.2.1 1 = .ok (.istore_n 3, 1) := by decide +kernel
theorem d_Play_firstWrong_2 : decode y_Play_firstWrong.2.1 2 = .ok (.iload_n 3, 1) := by decide +kernel
theorem d_Play_firstWrong_3 : decode y_Play_firstWrong.2.1 3 = .ok (.aload_n 0, 1) := by decide +kernel
theorem d_Play_firstWrong_4 : decode y_Play_firstWrong.2.1 4 = .ok (.getfield 10, 3) := by decide +kernel
theorem d_Play_firstWrong_7 : decode y_Play_firstWrong.2.1 7 = .ok (.getfield 54, 3) := by decide +kernel
theorem d_Play_firstWrong_10 : decode y_Play_firstWrong.2.1 10 = .ok (.if_icmp .gt 31, 3) := by decide +kernel
theorem d_Play_firstWrong_13 : decode y_Play_firstWrong.2.1 13 = .ok (.aload_n 0, 1) := by decide +kernel
theorem d_Play_firstWrong_14 : decode y_Play_firstWrong.2.1 14 = .ok (.getfield 48, 3) := by decide +kernel
theorem d_Play_firstWrong_17 : decode y_Play_firstWrong.2.1 17 = .ok (.iload_n 3, 1) := by decide +kernel
theorem d_Play_firstWrong_18 : decode y_Play_firstWrong.2.1 18 = .ok (.bipush 15, 2) := by decide +kernel
theorem d_Play_firstWrong_20 : decode y_Play_firstWrong.2.1 20 = .ok (.iand, 1) := by decide +kernel
theorem d_Play_firstWrong_21 : decode y_Play_firstWrong.2.1 21 = .ok (.iconst 4, 1) := by decide +kernel
theorem d_Play_firstWrong_22 : decode y_Play_firstWrong.2.1 22 = .ok (.imul, 1) := by decide +kernel
theorem d_Play_firstWrong_23 : decode y_Play_firstWrong.2.1 23 = .ok (.iload_n 1, 1) := by decide +kernel
theorem d_Play_firstWrong_24 : decode y_Play_firstWrong.2.1 24 = .ok (.iadd, 1) := by decide +kernel
theorem d_Play_firstWrong_25 : decode y_Play_firstWrong.2.1 25 = .ok (.iaload, 1) := by decide +kernel
theorem d_Play_firstWrong_26 : decode y_Play_firstWrong.2.1 26 = .ok (.aload_n 0, 1) := by decide +kernel
theorem d_Play_firstWrong_27 : decode y_Play_firstWrong.2.1 27 = .ok (.iload_n 1, 1) := by decide +kernel
theorem d_Play_firstWrong_28 : decode y_Play_firstWrong.2.1 28 = .ok (.iload_n 3, 1) := by decide +kernel
theorem d_Play_firstWrong_29 : decode y_Play_firstWrong.2.1 29 = .ok (.invokevirtual 105, 3) := by decide +kernel
theorem d_Play_firstWrong_32 : decode y_Play_firstWrong.2.1 32 = .ok (.if_icmp .ne 9, 3) := by decide +kernel
theorem d_Play_firstWrong_35 : decode y_Play_firstWrong.2.1 35 = .ok (.iinc 3 1, 3) := by decide +kernel
theorem d_Play_firstWrong_38 : decode y_Play_firstWrong.2.1 38 = .ok (.goto (-36), 3) := by decide +kernel
theorem d_Play_firstWrong_41 : decode y_Play_firstWrong.2.1 41 = .ok (.iload_n 3, 1) := by decide +kernel
theorem d_Play_firstWrong_42 : decode y_Play_firstWrong.2.1 42 = .ok (.ireturn, 1) := by decide +kernel
def y_Play_place : ab_Y := (⟨"WorldEngine$Play", "place", "(IZ)Z"⟩, prog_5_method_9_code, 4, (some FieldType.boolean), [])
theorem d_Play_place_0 : decode y_Play_place.2.1 0 = .ok (.iload_n 1, 1) := by decide +kernel
theorem d_Play_place_1 : decode y_Play_place.2.1 1 = .ok (.ifCond .lt 28, 3) := by decide +kernel
theorem d_Play_place_4 : decode y_Play_place.2.1 4 = .ok (.iload_n 1, 1) := by decide +kernel
theorem d_Play_place_5 : decode y_Play_place.2.1 5 = .ok (.iconst 4, 1) := by decide +kernel
theorem d_Play_place_6 : decode y_Play_place.2.1 6 = .ok (.if_icmp .ge 23, 3) := by decide +kernel
theorem d_Play_place_9 : decode y_Play_place.2.1 9 = .ok (.aload_n 0, 1) := by decide +kernel
theorem d_Play_place_10 : decode y_Play_place.2.1 10 = .ok (.getfield 20, 3) := by decide +kernel
theorem d_Play_place_13 : decode y_Play_place.2.1 13 = .ok (.iload_n 1, 1) := by decide +kernel
theorem d_Play_place_14 : decode y_Play_place.2.1 14 = .ok (.ishr, 1) := by decide +kernel
theorem d_Play_place_15 : decode y_Play_place.2.1 15 = .ok (.iconst 1, 1) := by decide +kernel
theorem d_Play_place_16 : decode y_Play_place.2.1 16 = .ok (.iand, 1) := by decide +kernel
theorem d_Play_place_17 : decode y_Play_place.2.1 17 = .ok (.iload_n 2, 1) := by decide +kernel
theorem d_Play_place_18 : decode y_Play_place.2.1 18 = .ok (.ifCond .eq 7, 3) := by decide +kernel
theorem d_Play_place_21 : decode y_Play_place.2.1 21 = .ok (.iconst 1, 1) := by decide +kernel
theorem d_Play_place_22 : decode y_Play_place.2.1 22 = .ok (.goto 4, 3) := by decide +kernel
theorem d_Play_place_25 : decode y_Play_place.2.1 25 = .ok (.iconst 0, 1) := by decide +kernel
theorem d_Play_place_26 : decode y_Play_place.2.1 26 = .ok (.if_icmp .ne 5, 3) := by decide +kernel
theorem d_Play_place_29 : decode y_Play_place.2.1 29 = .ok (.iconst 0, 1) := by decide +kernel
theorem d_Play_place_30 : decode y_Play_place.2.1 30 = .ok (.ireturn, 1) := by decide +kernel
theorem d_Play_place_31 : decode y_Play_place.2.1 31 = .ok (.aload_n 0, 1) := by decide +kernel
theorem d_Play_place_32 : decode y_Play_place.2.1 32 = .ok (.dup, 1) := by decide +kernel
theorem d_Play_place_33 : decode y_Play_place.2.1 33 = .ok (.getfield 20, 3) := by decide +kernel
theorem d_Play_place_36 : decode y_Play_place.2.1 36 = .ok (.iconst 1, 1) := by decide +kernel
theorem d_Play_place_37 : decode y_Play_place.2.1 37 = .ok (.iload_n 1, 1) := by decide +kernel
theorem d_Play_place_38 : decode y_Play_place.2.1 38 = .ok (.ishl, 1) := by decide +kernel
theorem d_Play_place_39 : decode y_Play_place.2.1 39 = .ok (.ixor, 1) := by decide +kernel
theorem d_Play_place_40 : decode y_Play_place.2.1 40 = .ok (.putfield 20, 3) := by decide +kernel
theorem d_Play_place_43 : decode y_Play_place.2.1 43 = .ok (.iconst 1, 1) := by decide +kernel
theorem d_Play_place_44 : decode y_Play_place.2.1 44 = .ok (.istore_n 3, 1) := by decide +kernel
theorem d_Play_place_45 : decode y_Play_place.2.1 45 = .ok (.iload_n 3, 1) := by decide +kernel
theorem d_Play_place_46 : decode y_Play_place.2.1 46 = .ok (.bipush 16, 2) := by decide +kernel
theorem d_Play_place_48 : decode y_Play_place.2.1 48 = .ok (.if_icmp .gt 32, 3) := by decide +kernel
theorem d_Play_place_51 : decode y_Play_place.2.1 51 = .ok (.iload_n 2, 1) := by decide +kernel
theorem d_Play_place_52 : decode y_Play_place.2.1 52 = .ok (.ifCond .ne 28, 3) := by decide +kernel
theorem d_Play_place_55 : decode y_Play_place.2.1 55 = .ok (.aload_n 0, 1) := by decide +kernel
theorem d_Play_place_56 : decode y_Play_place.2.1 56 = .ok (.getfield 35, 3) := by decide +kernel
theorem d_Play_place_59 : decode y_Play_place.2.1 59 = .ok (.iload_n 1, 1) := by decide +kernel
theorem d_Play_place_60 : decode y_Play_place.2.1 60 = .ok (.aload_n 0, 1) := by decide +kernel
theorem d_Play_place_61 : decode y_Play_place.2.1 61 = .ok (.getfield 10, 3) := by decide +kernel
theorem d_Play_place_64 : decode y_Play_place.2.1 64 = .ok (.getfield 54, 3) := by decide +kernel
theorem d_Play_place_67 : decode y_Play_place.2.1 67 = .ok (.iload_n 3, 1) := by decide +kernel
theorem d_Play_place_68 : decode y_Play_place.2.1 68 = .ok (.iadd, 1) := by decide +kernel
theorem d_Play_place_69 : decode y_Play_place.2.1 69 = .ok (.invokestatic 91, 3) := by decide +kernel
theorem d_Play_place_72 : decode y_Play_place.2.1 72 = .ok (.iconst 0, 1) := by decide +kernel
theorem d_Play_place_73 : decode y_Play_place.2.1 73 = .ok (.bastore, 1) := by decide +kernel
theorem d_Play_place_74 : decode y_Play_place.2.1 74 = .ok (.iinc 3 1, 3) := by decide +kernel
theorem d_Play_place_77 : decode y_Play_place.2.1 77 = .ok (.goto (-32), 3) := by decide +kernel
theorem d_Play_place_80 : decode y_Play_place.2.1 80 = .ok (.iconst 1, 1) := by decide +kernel
theorem d_Play_place_81 : decode y_Play_place.2.1 81 = .ok (.ireturn, 1) := by decide +kernel
def y_Play_adopt : ab_Y := (⟨"WorldEngine$Play", "adopt", "(LWorldEngine$World;)V"⟩, prog_5_method_8_code, 2, none, [])
theorem d_Play_adopt_0 : decode y_Play_adopt.2.1 0 = .ok (.aload_n 0, 1) := by decide +kernel
theorem d_Play_adopt_1 : decode y_Play_adopt.2.1 1 = .ok (.getfield 10, 3) := by decide +kernel
theorem d_Play_adopt_4 : decode y_Play_adopt.2.1 4 = .ok (.aload_n 1, 1) := by decide +kernel
theorem d_Play_adopt_5 : decode y_Play_adopt.2.1 5 = .ok (.invokevirtual 83, 3) := by decide +kernel
theorem d_Play_adopt_8 : decode y_Play_adopt.2.1 8 = .ok (.aload_n 0, 1) := by decide +kernel
theorem d_Play_adopt_9 : decode y_Play_adopt.2.1 9 = .ok (.invokevirtual 70, 3) := by decide +kernel
theorem d_Play_adopt_12 : decode y_Play_adopt.2.1 12 = .ok (.return_, 1) := by decide +kernel
theorem s_Play_init : ab_Stat y_Play_init 0 := ⟨(k1 193 rfl rfl), (k1 9 rfl rfl), ⟨by decide, by decide⟩, by decide +kernel⟩
theorem i_Play_init : Cond.instanceMethod y_Play_init.1 ∈ ab_T := (k1 192 rfl rfl)
theorem s_Play_begin : ab_Stat y_Play_begin 2 := ⟨(k6 77 rfl rfl), (k1 9 rfl rfl), ⟨by decide, by decide⟩, by decide +kernel⟩
theorem i_Play_begin : Cond.instanceMethod y_Play_begin.1 ∈ ab_T := (k6 75 rfl rfl)
theorem v_Play_begin : Cond.selects "WorldEngine$Play" y_Play_begin.1 y_Play_begin.1 ∈ ab_T := (k6 76 rfl rfl)
theorem s_Play_forgetInputs : ab_Stat y_Play_forgetInputs 0 := ⟨(k6 85 rfl rfl), (k1 9 rfl rfl), ⟨by decide, by decide⟩, by decide +kernel⟩
theorem i_Play_forgetInputs : Cond.instanceMethod y_Play_forgetInputs.1 ∈ ab_T := (k6 84 rfl rfl)
theorem v_Play_forgetInputs : Cond.selects "WorldEngine$Play" y_Play_forgetInputs.1 y_Play_forgetInputs.1 ∈ ab_T := ab_s (List.mem_of_getElem? (i := 62) rfl) rfl
theorem s_Play_isQuiet : ab_Stat y_Play_isQuiet 0 := ⟨(k6 98 rfl rfl), (k1 9 rfl rfl), ⟨by decide, by decide⟩, by decide +kernel⟩
theorem i_Play_isQuiet : Cond.instanceMethod y_Play_isQuiet.1 ∈ ab_T := (k6 96 rfl rfl)
theorem v_Play_isQuiet : Cond.selects "WorldEngine$Play" y_Play_isQuiet.1 y_Play_isQuiet.1 ∈ ab_T := (k6 97 rfl rfl)
theorem s_Play_carry : ab_Stat y_Play_carry 2 := ⟨(k6 102 rfl rfl), (k1 9 rfl rfl), ⟨by decide, by decide⟩, by decide +kernel⟩
theorem i_Play_carry : Cond.instanceMethod y_Play_carry.1 ∈ ab_T := (k6 100 rfl rfl)
theorem v_Play_carry : Cond.selects "WorldEngine$Play" y_Play_carry.1 y_Play_carry.1 ∈ ab_T := (k6 101 rfl rfl)
theorem s_Play_scratch : ab_Stat y_Play_scratch 0 := ⟨(k6 106 rfl rfl), (k1 9 rfl rfl), ⟨by decide, by decide⟩, by decide +kernel⟩
theorem i_Play_scratch : Cond.instanceMethod y_Play_scratch.1 ∈ ab_T := (k6 104 rfl rfl)
theorem v_Play_scratch : Cond.selects "WorldEngine$Play" y_Play_scratch.1 y_Play_scratch.1 ∈ ab_T := (k6 105 rfl rfl)
theorem s_Play_isFullyAhead : ab_Stat y_Play_isFullyAhead 0 := ⟨(k6 167 rfl rfl), (k1 9 rfl rfl), ⟨by decide, by decide⟩, by decide +kernel⟩
theorem i_Play_isFullyAhead : Cond.instanceMethod y_Play_isFullyAhead.1 ∈ ab_T := (k6 165 rfl rfl)
theorem v_Play_isFullyAhead : Cond.selects "WorldEngine$Play" y_Play_isFullyAhead.1 y_Play_isFullyAhead.1 ∈ ab_T := (k6 166 rfl rfl)
theorem s_Play_goOn : ab_Stat y_Play_goOn 1 := ⟨(k6 172 rfl rfl), (k1 9 rfl rfl), ⟨by decide, by decide⟩, by decide +kernel⟩
theorem i_Play_goOn : Cond.instanceMethod y_Play_goOn.1 ∈ ab_T := (k6 170 rfl rfl)
theorem v_Play_goOn : Cond.selects "WorldEngine$Play" y_Play_goOn.1 y_Play_goOn.1 ∈ ab_T := (k6 171 rfl rfl)
theorem s_Play_prepareNext : ab_Stat y_Play_prepareNext 0 := ⟨(k6 176 rfl rfl), (k1 9 rfl rfl), ⟨by decide, by decide⟩, by decide +kernel⟩
theorem i_Play_prepareNext : Cond.instanceMethod y_Play_prepareNext.1 ∈ ab_T := (k6 175 rfl rfl)
theorem v_Play_prepareNext : Cond.selects "WorldEngine$Play" y_Play_prepareNext.1 y_Play_prepareNext.1 ∈ ab_T := ab_s (List.mem_of_getElem? (i := 65) rfl) rfl
theorem s_Play_inputOf : ab_Stat y_Play_inputOf 2 := ⟨(k6 180 rfl rfl), (k1 9 rfl rfl), ⟨by decide, by decide⟩, by decide +kernel⟩
theorem i_Play_inputOf : Cond.instanceMethod y_Play_inputOf.1 ∈ ab_T := (k6 179 rfl rfl)
theorem v_Play_inputOf : Cond.selects "WorldEngine$Play" y_Play_inputOf.1 y_Play_inputOf.1 ∈ ab_T := ab_s (List.mem_of_getElem? (i := 66) rfl) rfl
theorem s_Play_slot : ab_Stat y_Play_slot 2 := ⟨(k6 183 rfl rfl), (k1 9 rfl rfl), ⟨by decide, by decide⟩, by decide +kernel⟩
theorem t_Play_slot : Cond.static y_Play_slot.1 ∈ ab_T := (k6 182 rfl rfl)
theorem s_Play_confirm : ab_Stat y_Play_confirm 0 := ⟨(k7 133 rfl rfl), (k1 9 rfl rfl), ⟨by decide, by decide⟩, by decide +kernel⟩
theorem i_Play_confirm : Cond.instanceMethod y_Play_confirm.1 ∈ ab_T := (k7 132 rfl rfl)
theorem v_Play_confirm : Cond.selects "WorldEngine$Play" y_Play_confirm.1 y_Play_confirm.1 ∈ ab_T := ab_s (List.mem_of_getElem? (i := 88) rfl) rfl
theorem s_Play_isKnown : ab_Stat y_Play_isKnown 1 := ⟨(k7 137 rfl rfl), (k1 9 rfl rfl), ⟨by decide, by decide⟩, by decide +kernel⟩
theorem i_Play_isKnown : Cond.instanceMethod y_Play_isKnown.1 ∈ ab_T := (k7 136 rfl rfl)
theorem v_Play_isKnown : Cond.selects "WorldEngine$Play" y_Play_isKnown.1 y_Play_isKnown.1 ∈ ab_T := ab_s (List.mem_of_getElem? (i := 89) rfl) rfl
theorem s_Play_tell : ab_Stat y_Play_tell 1 := ⟨(k7 141 rfl rfl), (k1 9 rfl rfl), ⟨by decide, by decide⟩, by decide +kernel⟩
theorem i_Play_tell : Cond.instanceMethod y_Play_tell.1 ∈ ab_T := (k7 140 rfl rfl)
theorem v_Play_tell : Cond.selects "WorldEngine$Play" y_Play_tell.1 y_Play_tell.1 ∈ ab_T := ab_s (List.mem_of_getElem? (i := 90) rfl) rfl
theorem s_Play_refusal : ab_Stat y_Play_refusal 2 := ⟨(k7 149 rfl rfl), (k1 9 rfl rfl), ⟨by decide, by decide⟩, by decide +kernel⟩
theorem i_Play_refusal : Cond.instanceMethod y_Play_refusal.1 ∈ ab_T := (k7 147 rfl rfl)
theorem v_Play_refusal : Cond.selects "WorldEngine$Play" y_Play_refusal.1 y_Play_refusal.1 ∈ ab_T := (k7 148 rfl rfl)
theorem s_Play_accept : ab_Stat y_Play_accept 4 := ⟨(k7 153 rfl rfl), (k1 9 rfl rfl), ⟨by decide, by decide⟩, by decide +kernel⟩
theorem i_Play_accept : Cond.instanceMethod y_Play_accept.1 ∈ ab_T := (k7 151 rfl rfl)
theorem v_Play_accept : Cond.selects "WorldEngine$Play" y_Play_accept.1 y_Play_accept.1 ∈ ab_T := (k7 152 rfl rfl)
theorem s_Play_firstWrong : ab_Stat y_Play_firstWrong 2 := ⟨(k7 157 rfl rfl), (k1 9 rfl rfl), ⟨by decide, by decide⟩, by decide +kernel⟩
theorem i_Play_firstWrong : Cond.instanceMethod y_Play_firstWrong.1 ∈ ab_T := (k7 156 rfl rfl)
theorem v_Play_firstWrong : Cond.selects "WorldEngine$Play" y_Play_firstWrong.1 y_Play_firstWrong.1 ∈ ab_T := ab_s (List.mem_of_getElem? (i := 91) rfl) rfl
theorem s_Play_place : ab_Stat y_Play_place 2 := ⟨(k7 166 rfl rfl), (k1 9 rfl rfl), ⟨by decide, by decide⟩, by decide +kernel⟩
theorem i_Play_place : Cond.instanceMethod y_Play_place.1 ∈ ab_T := (k7 164 rfl rfl)
theorem v_Play_place : Cond.selects "WorldEngine$Play" y_Play_place.1 y_Play_place.1 ∈ ab_T := (k7 165 rfl rfl)
theorem s_Play_adopt : ab_Stat y_Play_adopt 1 := ⟨(k8 94 rfl rfl), (k1 9 rfl rfl), ⟨by decide, by decide⟩, by decide +kernel⟩
theorem i_Play_adopt : Cond.instanceMethod y_Play_adopt.1 ∈ ab_T := (k8 92 rfl rfl)
theorem v_Play_adopt : Cond.selects "WorldEngine$Play" y_Play_adopt.1 y_Play_adopt.1 ∈ ab_T := (k8 93 rfl rfl)
