def y_M_thrown : ab_Y := (⟨"WorldEngineModel", "thrown", "()I"⟩, prog_14_method_2_code, 1, (some FieldType.int), [])
theorem d_M_thrown_0 : decode y_M_thrown.2.1 0 = .ok (.aload_n 0, 1) := by decide +kernel
theorem d_M_thrown_1 : decode y_M_thrown.2.1 1 = .ok (.getfield 83, 3) := by decide +kernel
theorem d_M_thrown_4 : decode y_M_thrown.2.1 4 = .ok (.ireturn, 1) := by decide +kernel
def y_M_feed : ab_Y := (⟨"WorldEngineModel", "feed", "(IIIII)Z"⟩, prog_14_method_5_code, 8, (some FieldType.boolean), [])
theorem d_M_feed_0 : decode y_M_feed.2.1 0 = .ok (.aload_n 0, 1) := by decide +kernel
theorem d_M_feed_1 : decode y_M_feed.2.1 1 = .ok (.iconst 0, 1) := by decide +kernel
theorem d_M_feed_2 : decode y_M_feed.2.1 2 = .ok (.putfield 83, 3) := by decide +kernel
theorem d_M_feed_5 : decode y_M_feed.2.1 5 = .ok (.aload_n 0, 1) := by decide +kernel
theorem d_M_feed_6 : decode y_M_feed.2.1 6 = .ok (.getfield 96, 3) := by decide +kernel
theorem d_M_feed_9 : decode y_M_feed.2.1 9 = .ok (.bipush 20, 2) := by decide +kernel
theorem d_M_feed_11 : decode y_M_feed.2.1 11 = .ok (.iadd, 1) := by decide +kernel
theorem d_M_feed_12 : decode y_M_feed.2.1 12 = .ok (.sipush 6000, 3) := by decide +kernel
theorem d_M_feed_15 : decode y_M_feed.2.1 15 = .ok (.if_icmp .le 5, 3) := by decide +kernel
theorem d_M_feed_18 : decode y_M_feed.2.1 18 = .ok (.iconst 0, 1) := by decide +kernel
theorem d_M_feed_19 : decode y_M_feed.2.1 19 = .ok (.ireturn, 1) := by decide +kernel
theorem d_M_feed_20 : decode y_M_feed.2.1 20 = .ok (.iconst 0, 1) := by decide +kernel
theorem d_M_feed_21 : decode y_M_feed.2.1 21 = .ok (.istore 6, 2) := by decide +kernel
theorem d_M_feed_23 : decode y_M_feed.2.1 23 = .ok (.iload 6, 2) := by decide +kernel
theorem d_M_feed_25 : decode y_M_feed.2.1 25 = .ok (.bipush 20, 2) := by decide +kernel
theorem d_M_feed_27 : decode y_M_feed.2.1 27 = .ok (.if_icmp .ge 90, 3) := by decide +kernel
theorem d_M_feed_30 : decode y_M_feed.2.1 30 = .ok (.iload 6, 2) := by decide +kernel
theorem d_M_feed_32 : decode y_M_feed.2.1 32 = .ok (.iconst 4, 1) := by decide +kernel
theorem d_M_feed_33 : decode y_M_feed.2.1 33 = .ok (.if_icmp .ge 7, 3) := by decide +kernel
theorem d_M_feed_36 : decode y_M_feed.2.1 36 = .ok (.iload_n 1, 1) := by decide +kernel
theorem d_M_feed_37 : decode y_M_feed.2.1 37 = .ok (.goto 39, 3) := by decide +kernel
theorem d_M_feed_40 : decode y_M_feed.2.1 40 = .ok (.iload 6, 2) := by decide +kernel
theorem d_M_feed_42 : decode y_M_feed.2.1 42 = .ok (.bipush 8, 2) := by decide +kernel
theorem d_M_feed_44 : decode y_M_feed.2.1 44 = .ok (.if_icmp .ge 7, 3) := by decide +kernel
theorem d_M_feed_47 : decode y_M_feed.2.1 47 = .ok (.iload_n 2, 1) := by decide +kernel
theorem d_M_feed_48 : decode y_M_feed.2.1 48 = .ok (.goto 28, 3) := by decide +kernel
theorem d_M_feed_51 : decode y_M_feed.2.1 51 = .ok (.iload 6, 2) := by decide +kernel
theorem d_M_feed_53 : decode y_M_feed.2.1 53 = .ok (.bipush 12, 2) := by decide +kernel
theorem d_M_feed_55 : decode y_M_feed.2.1 55 = .ok (.if_icmp .ge 7, 3) := by decide +kernel
theorem d_M_feed_58 : decode y_M_feed.2.1 58 = .ok (.iload_n 3, 1) := by decide +kernel
theorem d_M_feed_59 : decode y_M_feed.2.1 59 = .ok (.goto 17, 3) := by decide +kernel
theorem d_M_feed_62 : decode y_M_feed.2.1 62 = .ok (.iload 6, 2) := by decide +kernel
theorem d_M_feed_64 : decode y_M_feed.2.1 64 = .ok (.bipush 16, 2) := by decide +kernel
theorem d_M_feed_66 : decode y_M_feed.2.1 66 = .ok (.if_icmp .ge 8, 3) := by decide +kernel
theorem d_M_feed_69 : decode y_M_feed.2.1 69 = .ok (.iload 4, 2) := by decide +kernel
theorem d_M_feed_71 : decode y_M_feed.2.1 71 = .ok (.goto 5, 3) := by decide +kernel
theorem d_M_feed_74 : decode y_M_feed.2.1 74 = .ok (.iload 5, 2) := by decide +kernel
theorem d_M_feed_76 : decode y_M_feed.2.1 76 = .ok (.istore 7, 2) := by decide +kernel
theorem d_M_feed_78 : decode y_M_feed.2.1 78 = .ok (.aload_n 0, 1) := by decide +kernel
theorem d_M_feed_79 : decode y_M_feed.2.1 79 = .ok (.getfield 9, 3) := by decide +kernel
theorem d_M_feed_82 : decode y_M_feed.2.1 82 = .ok (.aload_n 0, 1) := by decide +kernel
theorem d_M_feed_83 : decode y_M_feed.2.1 83 = .ok (.getfield 96, 3) := by decide +kernel
theorem d_M_feed_86 : decode y_M_feed.2.1 86 = .ok (.iload 7, 2) := by decide +kernel
theorem d_M_feed_88 : decode y_M_feed.2.1 88 = .ok (.bipush 24, 2) := by decide +kernel
theorem d_M_feed_90 : decode y_M_feed.2.1 90 = .ok (.bipush 8, 2) := by decide +kernel
theorem d_M_feed_92 : decode y_M_feed.2.1 92 = .ok (.iload 6, 2) := by decide +kernel
theorem d_M_feed_94 : decode y_M_feed.2.1 94 = .ok (.iconst 4, 1) := by decide +kernel
theorem d_M_feed_95 : decode y_M_feed.2.1 95 = .ok (.irem, 1) := by decide +kernel
theorem d_M_feed_96 : decode y_M_feed.2.1 96 = .ok (.imul, 1) := by decide +kernel
theorem d_M_feed_97 : decode y_M_feed.2.1 97 = .ok (.isub, 1) := by decide +kernel
theorem d_M_feed_98 : decode y_M_feed.2.1 98 = .ok (.ishr, 1) := by decide +kernel
theorem d_M_feed_99 : decode y_M_feed.2.1 99 = .ok (.i2b, 1) := by decide +kernel
theorem d_M_feed_100 : decode y_M_feed.2.1 100 = .ok (.bastore, 1) := by decide +kernel
theorem d_M_feed_101 : decode y_M_feed.2.1 101 = .ok (.aload_n 0, 1) := by decide +kernel
theorem d_M_feed_102 : decode y_M_feed.2.1 102 = .ok (.dup, 1) := by decide +kernel
theorem d_M_feed_103 : decode y_M_feed.2.1 103 = .ok (.getfield 96, 3) := by decide +kernel
theorem d_M_feed_106 : decode y_M_feed.2.1 106 = .ok (.iconst 1, 1) := by decide +kernel
theorem d_M_feed_107 : decode y_M_feed.2.1 107 = .ok (.iadd, 1) := by decide +kernel
theorem d_M_feed_108 : decode y_M_feed.2.1 108 = .ok (.putfield 96, 3) := by decide +kernel
theorem d_M_feed_111 : decode y_M_feed.2.1 111 = .ok (.iinc 6 1, 3) := by decide +kernel
theorem d_M_feed_114 : decode y_M_feed.2.1 114 = .ok (.goto (-91), 3) := by decide +kernel
theorem d_M_feed_117 : decode y_M_feed.2.1 117 = .ok (.iconst 1, 1) := by decide +kernel
theorem d_M_feed_118 : decode y_M_feed.2.1 118 = .ok (.ireturn, 1) := by decide +kernel
def y_M_end : ab_Y := (⟨"WorldEngineModel", "end", "(I)Z"⟩, prog_14_method_6_code, 2, (some FieldType.boolean), [])
theorem d_M_end_0 : decode y_M_end.2.1 0 = .ok (.aload_n 0, 1) := by decide +kernel
theorem d_M_end_1 : decode y_M_end.2.1 1 = .ok (.iconst 0, 1) := by decide +kernel
theorem d_M_end_2 : decode y_M_end.2.1 2 = .ok (.putfield 83, 3) := by decide +kernel
theorem d_M_end_5 : decode y_M_end.2.1 5 = .ok (.iload_n 1, 1) := by decide +kernel
theorem d_M_end_6 : decode y_M_end.2.1 6 = .ok (.i2l, 1) := by decide +kernel
theorem d_M_end_7 : decode y_M_end.2.1 7 = .ok (.lconst 0, 1) := by decide +kernel
theorem d_M_end_8 : decode y_M_end.2.1 8 = .ok (.aload_n 0, 1) := by decide +kernel
theorem d_M_end_9 : decode y_M_end.2.1 9 = .ok (.getfield 96, 3) := by decide +kernel
theorem d_M_end_12 : decode y_M_end.2.1 12 = .ok (.i2l, 1) := by decide +kernel
theorem d_M_end_13 : decode y_M_end.2.1 13 = .ok (.invokestatic 99, 3) := by decide +kernel
theorem d_M_end_16 : decode y_M_end.2.1 16 = .ok (.ifCond .ne 5, 3) := by decide +kernel
theorem d_M_end_19 : decode y_M_end.2.1 19 = .ok (.iconst 0, 1) := by decide +kernel
theorem d_M_end_20 : decode y_M_end.2.1 20 = .ok (.ireturn, 1) := by decide +kernel
theorem d_M_end_21 : decode y_M_end.2.1 21 = .ok (.aload_n 0, 1) := by decide +kernel
theorem d_M_end_22 : decode y_M_end.2.1 22 = .ok (.iload_n 1, 1) := by decide +kernel
theorem d_M_end_23 : decode y_M_end.2.1 23 = .ok (.putfield 96, 3) := by decide +kernel
theorem d_M_end_26 : decode y_M_end.2.1 26 = .ok (.iconst 1, 1) := by decide +kernel
theorem d_M_end_27 : decode y_M_end.2.1 27 = .ok (.ireturn, 1) := by decide +kernel
def y_M_in : ab_Y := (⟨"WorldEngineModel", "in", "(JJJ)Z"⟩, prog_14_method_3_code, 6, (some FieldType.boolean), [])
theorem d_M_in_0 : decode y_M_in.2.1 0 = .ok (.lload_n 0, 1) := by decide +kernel
theorem d_M_in_1 : decode y_M_in.2.1 1 = .ok (.lload_n 2, 1) := by decide +kernel
theorem d_M_in_2 : decode y_M_in.2.1 2 = .ok (.lcmp, 1) := by decide +kernel
theorem d_M_in_3 : decode y_M_in.2.1 3 = .ok (.ifCond .lt 14, 3) := by decide +kernel
theorem d_M_in_6 : decode y_M_in.2.1 6 = .ok (.lload_n 0, 1) := by decide +kernel
theorem d_M_in_7 : decode y_M_in.2.1 7 = .ok (.lload 4, 2) := by decide +kernel
theorem d_M_in_9 : decode y_M_in.2.1 9 = .ok (.lcmp, 1) := by decide +kernel
theorem d_M_in_10 : decode y_M_in.2.1 10 = .ok (.ifCond .gt 7, 3) := by decide +kernel
theorem d_M_in_13 : decode y_M_in.2.1 13 = .ok (.iconst 1, 1) := by decide +kernel
theorem d_M_in_14 : decode y_M_in.2.1 14 = .ok (.goto 4, 3) := by decide +kernel
theorem d_M_in_17 : decode y_M_in.2.1 17 = .ok (.iconst 0, 1) := by decide +kernel
theorem d_M_in_18 : decode y_M_in.2.1 18 = .ok (.ireturn, 1) := by decide +kernel
def y_M_text : ab_Y := (⟨"WorldEngineModel", "text", "(I)I"⟩, prog_14_method_9_code, 2, (some FieldType.int), [])
theorem d_M_text_0 : decode y_M_text.2.1 0 = .ok (.aload_n 0, 1) := by decide +kernel
theorem d_M_text_1 : decode y_M_text.2.1 1 = .ok (.iconst 0, 1) := by decide +kernel
theorem d_M_text_2 : decode y_M_text.2.1 2 = .ok (.putfield 83, 3) := by decide +kernel
theorem d_M_text_5 : decode y_M_text.2.1 5 = .ok (.aload_n 0, 1) := by decide +kernel
theorem d_M_text_6 : decode y_M_text.2.1 6 = .ok (.invokevirtual 117, 3) := by decide +kernel
theorem d_M_text_9 : decode y_M_text.2.1 9 = .ok (.ifCond .ne 9, 3) := by decide +kernel
theorem d_M_text_12 : decode y_M_text.2.1 12 = .ok (.aload_n 0, 1) := by decide +kernel
theorem d_M_text_13 : decode y_M_text.2.1 13 = .ok (.getfield 23, 3) := by decide +kernel
theorem d_M_text_16 : decode y_M_text.2.1 16 = .ok (.ineg, 1) := by decide +kernel
theorem d_M_text_17 : decode y_M_text.2.1 17 = .ok (.ireturn, 1) := by decide +kernel
theorem d_M_text_18 : decode y_M_text.2.1 18 = .ok (.aload_n 0, 1) := by decide +kernel
theorem d_M_text_19 : decode y_M_text.2.1 19 = .ok (.invokevirtual 120, 3) := by decide +kernel
theorem d_M_text_22 : decode y_M_text.2.1 22 = .ok (.aload_n 0, 1) := by decide +kernel
theorem d_M_text_23 : decode y_M_text.2.1 23 = .ok (.getfield 37, 3) := by decide +kernel
theorem d_M_text_26 : decode y_M_text.2.1 26 = .ok (.invokevirtual 123, 3) := by decide +kernel
theorem d_M_text_29 : decode y_M_text.2.1 29 = .ok (.aload_n 0, 1) := by decide +kernel
theorem d_M_text_30 : decode y_M_text.2.1 30 = .ok (.getfield 37, 3) := by decide +kernel
theorem d_M_text_33 : decode y_M_text.2.1 33 = .ok (.iload_n 1, 1) := by decide +kernel
theorem d_M_text_34 : decode y_M_text.2.1 34 = .ok (.putfield 126, 3) := by decide +kernel
theorem d_M_text_37 : decode y_M_text.2.1 37 = .ok (.aload_n 0, 1) := by decide +kernel
theorem d_M_text_38 : decode y_M_text.2.1 38 = .ok (.getfield 33, 3) := by decide +kernel
theorem d_M_text_41 : decode y_M_text.2.1 41 = .ok (.aload_n 0, 1) := by decide +kernel
theorem d_M_text_42 : decode y_M_text.2.1 42 = .ok (.getfield 37, 3) := by decide +kernel
theorem d_M_text_45 : decode y_M_text.2.1 45 = .ok (.invokevirtual 129, 3) := by decide +kernel
theorem d_M_text_48 : decode y_M_text.2.1 48 = .ok (.aload_n 0, 1) := by decide +kernel
theorem d_M_text_49 : decode y_M_text.2.1 49 = .ok (.invokevirtual 133, 3) := by decide +kernel
theorem d_M_text_52 : decode y_M_text.2.1 52 = .ok (.aload_n 0, 1) := by decide +kernel
theorem d_M_text_53 : decode y_M_text.2.1 53 = .ok (.iconst 0, 1) := by decide +kernel
theorem d_M_text_54 : decode y_M_text.2.1 54 = .ok (.putfield 136, 3) := by decide +kernel
theorem d_M_text_57 : decode y_M_text.2.1 57 = .ok (.aload_n 0, 1) := by decide +kernel
theorem d_M_text_58 : decode y_M_text.2.1 58 = .ok (.iconst 0, 1) := by decide +kernel
theorem d_M_text_59 : decode y_M_text.2.1 59 = .ok (.putfield 139, 3) := by decide +kernel
theorem d_M_text_62 : decode y_M_text.2.1 62 = .ok (.aload_n 0, 1) := by decide +kernel
theorem d_M_text_63 : decode y_M_text.2.1 63 = .ok (.getfield 16, 3) := by decide +kernel
theorem d_M_text_66 : decode y_M_text.2.1 66 = .ok (.getfield 142, 3) := by decide +kernel
theorem d_M_text_69 : decode y_M_text.2.1 69 = .ok (.ireturn, 1) := by decide +kernel
def y_M_reads : ab_Y := (⟨"WorldEngineModel", "reads", "()Z"⟩, prog_14_method_7_code, 1, (some FieldType.boolean), [])
theorem d_M_reads_0 : decode y_M_reads.2.1 0 = .ok (.aload_n 0, 1) := by decide +kernel
theorem d_M_reads_1 : decode y_M_reads.2.1 1 = .ok (.getfield 20, 3) := by decide +kernel
theorem d_M_reads_4 : decode y_M_reads.2.1 4 = .ok (.aload_n 0, 1) := by decide +kernel
theorem d_M_reads_5 : decode y_M_reads.2.1 5 = .ok (.getfield 9, 3) := by decide +kernel
theorem d_M_reads_8 : decode y_M_reads.2.1 8 = .ok (.aload_n 0, 1) := by decide +kernel
theorem d_M_reads_9 : decode y_M_reads.2.1 9 = .ok (.getfield 96, 3) := by decide +kernel
theorem d_M_reads_12 : decode y_M_reads.2.1 12 = .ok (.invokevirtual 103, 3) := by decide +kernel
theorem d_M_reads_15 : decode y_M_reads.2.1 15 = .ok (.aload_n 0, 1) := by decide +kernel
theorem d_M_reads_16 : decode y_M_reads.2.1 16 = .ok (.iconst 0, 1) := by decide +kernel
theorem d_M_reads_17 : decode y_M_reads.2.1 17 = .ok (.putfield 96, 3) := by decide +kernel
theorem d_M_reads_20 : decode y_M_reads.2.1 20 = .ok (.aload_n 0, 1) := by decide +kernel
theorem d_M_reads_21 : decode y_M_reads.2.1 21 = .ok (.aload_n 0, 1) := by decide +kernel
theorem d_M_reads_22 : decode y_M_reads.2.1 22 = .ok (.getfield 20, 3) := by decide +kernel
theorem d_M_reads_25 : decode y_M_reads.2.1 25 = .ok (.getfield 107, 3) := by decide +kernel
theorem d_M_reads_28 : decode y_M_reads.2.1 28 = .ok (.ifCond .ne 7, 3) := by decide +kernel
theorem d_M_reads_31 : decode y_M_reads.2.1 31 = .ok (.iconst (-1), 1) := by decide +kernel
theorem d_M_reads_32 : decode y_M_reads.2.1 32 = .ok (.goto 10, 3) := by decide +kernel
theorem d_M_reads_35 : decode y_M_reads.2.1 35 = .ok (.aload_n 0, 1) := by decide +kernel
theorem d_M_reads_36 : decode y_M_reads.2.1 36 = .ok (.getfield 20, 3) := by decide +kernel
theorem d_M_reads_39 : decode y_M_reads.2.1 39 = .ok (.getfield 107, 3) := by decide +kernel
theorem d_M_reads_42 : decode y_M_reads.2.1 42 = .ok (.putfield 23, 3) := by decide +kernel
theorem d_M_reads_45 : decode y_M_reads.2.1 45 = .ok (.aload_n 0, 1) := by decide +kernel
theorem d_M_reads_46 : decode y_M_reads.2.1 46 = .ok (.aload_n 0, 1) := by decide +kernel
theorem d_M_reads_47 : decode y_M_reads.2.1 47 = .ok (.getfield 20, 3) := by decide +kernel
theorem d_M_reads_50 : decode y_M_reads.2.1 50 = .ok (.getfield 107, 3) := by decide +kernel
theorem d_M_reads_53 : decode y_M_reads.2.1 53 = .ok (.ifCond .ne 7, 3) := by decide +kernel
theorem d_M_reads_56 : decode y_M_reads.2.1 56 = .ok (.iconst (-1), 1) := by decide +kernel
theorem d_M_reads_57 : decode y_M_reads.2.1 57 = .ok (.goto 10, 3) := by decide +kernel
theorem d_M_reads_60 : decode y_M_reads.2.1 60 = .ok (.aload_n 0, 1) := by decide +kernel
theorem d_M_reads_61 : decode y_M_reads.2.1 61 = .ok (.getfield 20, 3) := by decide +kernel
theorem d_M_reads_64 : decode y_M_reads.2.1 64 = .ok (.getfield 110, 3) := by decide +kernel
theorem d_M_reads_67 : decode y_M_reads.2.1 67 = .ok (.putfield 27, 3) := by decide +kernel
theorem d_M_reads_70 : decode y_M_reads.2.1 70 = .ok (.aload_n 0, 1) := by decide +kernel
theorem d_M_reads_71 : decode y_M_reads.2.1 71 = .ok (.getfield 20, 3) := by decide +kernel
theorem d_M_reads_74 : decode y_M_reads.2.1 74 = .ok (.getfield 107, 3) := by decide +kernel
theorem d_M_reads_77 : decode y_M_reads.2.1 77 = .ok (.ifCond .ne 7, 3) := by decide +kernel
theorem d_M_reads_80 : decode y_M_reads.2.1 80 = .ok (.iconst 1, 1) := by decide +kernel
theorem d_M_reads_81 : decode y_M_reads.2.1 81 = .ok (.goto 4, 3) := by decide +kernel
theorem d_M_reads_84 : decode y_M_reads.2.1 84 = .ok (.iconst 0, 1) := by decide +kernel
theorem d_M_reads_85 : decode y_M_reads.2.1 85 = .ok (.ireturn, 1) := by decide +kernel
def y_M_takes : ab_Y := (⟨"WorldEngineModel", "takes", "()V"⟩, prog_14_method_8_code, 2, none, [])
theorem d_M_takes_0 : decode y_M_takes.2.1 0 = .ok (.aload_n 0, 1) := by decide +kernel
theorem d_M_takes_1 : decode y_M_takes.2.1 1 = .ok (.getfield 16, 3) := by decide +kernel
theorem d_M_takes_4 : decode y_M_takes.2.1 4 = .ok (.astore_n 1, 1) := by decide +kernel
theorem d_M_takes_5 : decode y_M_takes.2.1 5 = .ok (.aload_n 0, 1) := by decide +kernel
theorem d_M_takes_6 : decode y_M_takes.2.1 6 = .ok (.aload_n 0, 1) := by decide +kernel
theorem d_M_takes_7 : decode y_M_takes.2.1 7 = .ok (.getfield 20, 3) := by decide +kernel
theorem d_M_takes_10 : decode y_M_takes.2.1 10 = .ok (.putfield 16, 3) := by decide +kernel
theorem d_M_takes_13 : decode y_M_takes.2.1 13 = .ok (.aload_n 0, 1) := by decide +kernel
theorem d_M_takes_14 : decode y_M_takes.2.1 14 = .ok (.aload_n 1, 1) := by decide +kernel
theorem d_M_takes_15 : decode y_M_takes.2.1 15 = .ok (.putfield 20, 3) := by decide +kernel
theorem d_M_takes_18 : decode y_M_takes.2.1 18 = .ok (.aload_n 0, 1) := by decide +kernel
theorem d_M_takes_19 : decode y_M_takes.2.1 19 = .ok (.iconst 1, 1) := by decide +kernel
theorem d_M_takes_20 : decode y_M_takes.2.1 20 = .ok (.putfield 113, 3) := by decide +kernel
theorem d_M_takes_23 : decode y_M_takes.2.1 23 = .ok (.return_, 1) := by decide +kernel
def y_M_forgets : ab_Y := (⟨"WorldEngineModel", "forgets", "()V"⟩, prog_14_method_10_code, 2, none, [])
theorem d_M_forgets_0 : decode y_M_forgets.2.1 0 = .ok (.iconst 0, 1) := by decide +kernel
theorem d_M_forgets_1 : decode y_M_forgets.2.1 1 = .ok (.istore_n 1, 1) := by decide +kernel
theorem d_M_forgets_2 : decode y_M_forgets.2.1 2 = .ok (.iload_n 1, 1) := by decide +kernel
theorem d_M_forgets_3 : decode y_M_forgets.2.1 3 = .ok (.sipush 256, 3) := by decide +kernel
theorem d_M_forgets_6 : decode y_M_forgets.2.1 6 = .ok (.if_icmp .ge 16, 3) := by decide +kernel
theorem d_M_forgets_9 : decode y_M_forgets.2.1 9 = .ok (.aload_n 0, 1) := by decide +kernel
theorem d_M_forgets_10 : decode y_M_forgets.2.1 10 = .ok (.getfield 57, 3) := by decide +kernel
theorem d_M_forgets_13 : decode y_M_forgets.2.1 13 = .ok (.iload_n 1, 1) := by decide +kernel
theorem d_M_forgets_14 : decode y_M_forgets.2.1 14 = .ok (.iconst 0, 1) := by decide +kernel
theorem d_M_forgets_15 : decode y_M_forgets.2.1 15 = .ok (.bastore, 1) := by decide +kernel
theorem d_M_forgets_16 : decode y_M_forgets.2.1 16 = .ok (.iinc 1 1, 3) := by decide +kernel
theorem d_M_forgets_19 : decode y_M_forgets.2.1 19 = .ok (.goto (-17), 3) := by decide +kernel
theorem d_M_forgets_22 : decode y_M_forgets.2.1 22 = .ok (.iconst 0, 1) := by decide +kernel
theorem d_M_forgets_23 : decode y_M_forgets.2.1 23 = .ok (.istore_n 1, 1) := by decide +kernel
theorem d_M_forgets_24 : decode y_M_forgets.2.1 24 = .ok (.iload_n 1, 1) := by decide +kernel
theorem d_M_forgets_25 : decode y_M_forgets.2.1 25 = .ok (.iconst 4, 1) := by decide +kernel
theorem d_M_forgets_26 : decode y_M_forgets.2.1 26 = .ok (.if_icmp .ge 16, 3) := by decide +kernel
theorem d_M_forgets_29 : decode y_M_forgets.2.1 29 = .ok (.aload_n 0, 1) := by decide +kernel
theorem d_M_forgets_30 : decode y_M_forgets.2.1 30 = .ok (.getfield 64, 3) := by decide +kernel
theorem d_M_forgets_33 : decode y_M_forgets.2.1 33 = .ok (.iload_n 1, 1) := by decide +kernel
theorem d_M_forgets_34 : decode y_M_forgets.2.1 34 = .ok (.iconst 0, 1) := by decide +kernel
theorem d_M_forgets_35 : decode y_M_forgets.2.1 35 = .ok (.iastore, 1) := by decide +kernel
theorem d_M_forgets_36 : decode y_M_forgets.2.1 36 = .ok (.iinc 1 1, 3) := by decide +kernel
theorem d_M_forgets_39 : decode y_M_forgets.2.1 39 = .ok (.goto (-15), 3) := by decide +kernel
theorem d_M_forgets_42 : decode y_M_forgets.2.1 42 = .ok (.return_, 1) := by decide +kernel
def y_M_fault : ab_Y := (⟨"WorldEngineModel", "fault", "(I)I"⟩, prog_14_method_11_code, 2, (some FieldType.int), [])
theorem d_M_fault_0 : decode y_M_fault.2.1 0 = .ok (.aload_n 0, 1) := by decide +kernel
theorem d_M_fault_1 : decode y_M_fault.2.1 1 = .ok (.iconst 0, 1) := by decide +kernel
theorem d_M_fault_2 : decode y_M_fault.2.1 2 = .ok (.putfield 83, 3) := by decide +kernel
theorem d_M_fault_5 : decode y_M_fault.2.1 5 = .ok (.iload_n 1, 1) := by decide +kernel
theorem d_M_fault_6 : decode y_M_fault.2.1 6 = .ok (.ifCond .ne 10, 3) := by decide +kernel
theorem d_M_fault_9 : decode y_M_fault.2.1 9 = .ok (.aload_n 0, 1) := by decide +kernel
theorem d_M_fault_10 : decode y_M_fault.2.1 10 = .ok (.getfield 27, 3) := by decide +kernel
theorem d_M_fault_13 : decode y_M_fault.2.1 13 = .ok (.goto 16, 3) := by decide +kernel
theorem d_M_fault_16 : decode y_M_fault.2.1 16 = .ok (.iload_n 1, 1) := by decide +kernel
theorem d_M_fault_17 : decode y_M_fault.2.1 17 = .ok (.iconst 1, 1) := by decide +kernel
theorem d_M_fault_18 : decode y_M_fault.2.1 18 = .ok (.if_icmp .ne 10, 3) := by decide +kernel
theorem d_M_fault_21 : decode y_M_fault.2.1 21 = .ok (.aload_n 0, 1) := by decide +kernel
theorem d_M_fault_22 : decode y_M_fault.2.1 22 = .ok (.getfield 23, 3) := by decide +kernel
theorem d_M_fault_25 : decode y_M_fault.2.1 25 = .ok (.goto 4, 3) := by decide +kernel
theorem d_M_fault_28 : decode y_M_fault.2.1 28 = .ok (.iconst (-1), 1) := by decide +kernel
theorem d_M_fault_29 : decode y_M_fault.2.1 29 = .ok (.ireturn, 1) := by decide +kernel
def y_M_swap : ab_Y := (⟨"WorldEngineModel", "swap", "()I"⟩, prog_14_method_13_code, 2, (some FieldType.int), [])
theorem d_M_swap_0 : decode y_M_swap.2.1 0 = .ok (.aload_n 0, 1) := by decide +kernel
theorem d_M_swap_1 : decode y_M_swap.2.1 1 = .ok (.iconst 0, 1) := by decide +kernel
theorem d_M_swap_2 : decode y_M_swap.2.1 2 = .ok (.putfield 83, 3) := by decide +kernel
theorem d_M_swap_5 : decode y_M_swap.2.1 5 = .ok (.aload_n 0, 1) := by decide +kernel
theorem d_M_swap_6 : decode y_M_swap.2.1 6 = .ok (.invokevirtual 148, 3) := by decide +kernel
theorem d_M_swap_9 : decode y_M_swap.2.1 9 = .ok (.ifCond .ne 6, 3) := by decide +kernel
theorem d_M_swap_12 : decode y_M_swap.2.1 12 = .ok (.bipush (-10), 2) := by decide +kernel
theorem d_M_swap_14 : decode y_M_swap.2.1 14 = .ok (.ireturn, 1) := by decide +kernel
theorem d_M_swap_15 : decode y_M_swap.2.1 15 = .ok (.aload_n 0, 1) := by decide +kernel
theorem d_M_swap_16 : decode y_M_swap.2.1 16 = .ok (.invokevirtual 117, 3) := by decide +kernel
theorem d_M_swap_19 : decode y_M_swap.2.1 19 = .ok (.ifCond .ne 9, 3) := by decide +kernel
theorem d_M_swap_22 : decode y_M_swap.2.1 22 = .ok (.aload_n 0, 1) := by decide +kernel
theorem d_M_swap_23 : decode y_M_swap.2.1 23 = .ok (.getfield 23, 3) := by decide +kernel
theorem d_M_swap_26 : decode y_M_swap.2.1 26 = .ok (.ineg, 1) := by decide +kernel
theorem d_M_swap_27 : decode y_M_swap.2.1 27 = .ok (.ireturn, 1) := by decide +kernel
theorem d_M_swap_28 : decode y_M_swap.2.1 28 = .ok (.aload_n 0, 1) := by decide +kernel
theorem d_M_swap_29 : decode y_M_swap.2.1 29 = .ok (.invokevirtual 151, 3) := by decide +kernel
theorem d_M_swap_32 : decode y_M_swap.2.1 32 = .ok (.aload_n 0, 1) := by decide +kernel
theorem d_M_swap_33 : decode y_M_swap.2.1 33 = .ok (.invokevirtual 120, 3) := by decide +kernel
theorem d_M_swap_36 : decode y_M_swap.2.1 36 = .ok (.aload_n 0, 1) := by decide +kernel
theorem d_M_swap_37 : decode y_M_swap.2.1 37 = .ok (.getfield 37, 3) := by decide +kernel
theorem d_M_swap_40 : decode y_M_swap.2.1 40 = .ok (.astore_n 1, 1) := by decide +kernel
theorem d_M_swap_41 : decode y_M_swap.2.1 41 = .ok (.aload_n 0, 1) := by decide +kernel
theorem d_M_swap_42 : decode y_M_swap.2.1 42 = .ok (.aload_n 0, 1) := by decide +kernel
theorem d_M_swap_43 : decode y_M_swap.2.1 43 = .ok (.getfield 40, 3) := by decide +kernel
theorem d_M_swap_46 : decode y_M_swap.2.1 46 = .ok (.putfield 37, 3) := by decide +kernel
theorem d_M_swap_49 : decode y_M_swap.2.1 49 = .ok (.aload_n 0, 1) := by decide +kernel
theorem d_M_swap_50 : decode y_M_swap.2.1 50 = .ok (.aload_n 1, 1) := by decide +kernel
theorem d_M_swap_51 : decode y_M_swap.2.1 51 = .ok (.putfield 40, 3) := by decide +kernel
theorem d_M_swap_54 : decode y_M_swap.2.1 54 = .ok (.aload_n 0, 1) := by decide +kernel
theorem d_M_swap_55 : decode y_M_swap.2.1 55 = .ok (.getfield 33, 3) := by decide +kernel
theorem d_M_swap_58 : decode y_M_swap.2.1 58 = .ok (.aload_n 0, 1) := by decide +kernel
theorem d_M_swap_59 : decode y_M_swap.2.1 59 = .ok (.getfield 37, 3) := by decide +kernel
theorem d_M_swap_62 : decode y_M_swap.2.1 62 = .ok (.invokevirtual 129, 3) := by decide +kernel
theorem d_M_swap_65 : decode y_M_swap.2.1 65 = .ok (.aload_n 0, 1) := by decide +kernel
theorem d_M_swap_66 : decode y_M_swap.2.1 66 = .ok (.getfield 16, 3) := by decide +kernel
theorem d_M_swap_69 : decode y_M_swap.2.1 69 = .ok (.getfield 142, 3) := by decide +kernel
theorem d_M_swap_72 : decode y_M_swap.2.1 72 = .ok (.ireturn, 1) := by decide +kernel
def y_M_isQuiet : ab_Y := (⟨"WorldEngineModel", "isQuiet", "()Z"⟩, prog_14_method_12_code, 1, (some FieldType.boolean), [])
theorem d_M_isQuiet_0 : decode y_M_isQuiet.2.1 0 = .ok (.aload_n 0, 1) := by decide +kernel
theorem d_M_isQuiet_1 : decode y_M_isQuiet.2.1 1 = .ok (.getfield 37, 3) := by decide +kernel
theorem d_M_isQuiet_4 : decode y_M_isQuiet.2.1 4 = .ok (.getfield 145, 3) := by decide +kernel
theorem d_M_isQuiet_7 : decode y_M_isQuiet.2.1 7 = .ok (.aload_n 0, 1) := by decide +kernel
theorem d_M_isQuiet_8 : decode y_M_isQuiet.2.1 8 = .ok (.getfield 33, 3) := by decide +kernel
theorem d_M_isQuiet_11 : decode y_M_isQuiet.2.1 11 = .ok (.getfield 145, 3) := by decide +kernel
theorem d_M_isQuiet_14 : decode y_M_isQuiet.2.1 14 = .ok (.if_icmp .ne 7, 3) := by decide +kernel
theorem d_M_isQuiet_17 : decode y_M_isQuiet.2.1 17 = .ok (.iconst 1, 1) := by decide +kernel
theorem d_M_isQuiet_18 : decode y_M_isQuiet.2.1 18 = .ok (.goto 4, 3) := by decide +kernel
theorem d_M_isQuiet_21 : decode y_M_isQuiet.2.1 21 = .ok (.iconst 0, 1) := by decide +kernel
theorem d_M_isQuiet_22 : decode y_M_isQuiet.2.1 22 = .ok (.ireturn, 1) := by decide +kernel
def y_M_carries : ab_Y := (⟨"WorldEngineModel", "carries", "()V"⟩, prog_14_method_14_code, 8, none, [])
theorem d_M_carries_0 : decode y_M_carries.2.1 0 = .ok (.aload_n 0, 1) := by decide +kernel
theorem d_M_carries_1 : decode y_M_carries.2.1 1 = .ok (.getfield 37, 3) := by decide +kernel
theorem d_M_carries_4 : decode y_M_carries.2.1 4 = .ok (.astore_n 1, 1) := by decide +kernel
theorem d_M_carries_5 : decode y_M_carries.2.1 5 = .ok (.aload_n 0, 1) := by decide +kernel
theorem d_M_carries_6 : decode y_M_carries.2.1 6 = .ok (.getfield 40, 3) := by decide +kernel
theorem d_M_carries_9 : decode y_M_carries.2.1 9 = .ok (.astore_n 2, 1) := by decide +kernel
theorem d_M_carries_10 : decode y_M_carries.2.1 10 = .ok (.aload_n 2, 1) := by decide +kernel
theorem d_M_carries_11 : decode y_M_carries.2.1 11 = .ok (.aload_n 1, 1) := by decide +kernel
theorem d_M_carries_12 : decode y_M_carries.2.1 12 = .ok (.invokevirtual 129, 3) := by decide +kernel
theorem d_M_carries_15 : decode y_M_carries.2.1 15 = .ok (.aload_n 2, 1) := by decide +kernel
theorem d_M_carries_16 : decode y_M_carries.2.1 16 = .ok (.iconst (-1), 1) := by decide +kernel
theorem d_M_carries_17 : decode y_M_carries.2.1 17 = .ok (.putfield 154, 3) := by decide +kernel
theorem d_M_carries_20 : decode y_M_carries.2.1 20 = .ok (.iconst 0, 1) := by decide +kernel
theorem d_M_carries_21 : decode y_M_carries.2.1 21 = .ok (.istore_n 3, 1) := by decide +kernel
theorem d_M_carries_22 : decode y_M_carries.2.1 22 = .ok (.iload_n 3, 1) := by decide +kernel
theorem d_M_carries_23 : decode y_M_carries.2.1 23 = .ok (.sipush 256, 3) := by decide +kernel
theorem d_M_carries_26 : decode y_M_carries.2.1 26 = .ok (.if_icmp .ge 237, 3) := by decide +kernel
theorem d_M_carries_29 : decode y_M_carries.2.1 29 = .ok (.aload_n 2, 1) := by decide +kernel
theorem d_M_carries_30 : decode y_M_carries.2.1 30 = .ok (.getfield 157, 3) := by decide +kernel
theorem d_M_carries_33 : decode y_M_carries.2.1 33 = .ok (.iload_n 3, 1) := by decide +kernel
theorem d_M_carries_34 : decode y_M_carries.2.1 34 = .ok (.iconst 0, 1) := by decide +kernel
theorem d_M_carries_35 : decode y_M_carries.2.1 35 = .ok (.iastore, 1) := by decide +kernel
theorem d_M_carries_36 : decode y_M_carries.2.1 36 = .ok (.iconst 0, 1) := by decide +kernel
theorem d_M_carries_37 : decode y_M_carries.2.1 37 = .ok (.istore 4, 2) := by decide +kernel
theorem d_M_carries_39 : decode y_M_carries.2.1 39 = .ok (.aload_n 1, 1) := by decide +kernel
theorem d_M_carries_40 : decode y_M_carries.2.1 40 = .ok (.getfield 158, 3) := by decide +kernel
theorem d_M_carries_43 : decode y_M_carries.2.1 43 = .ok (.iload_n 3, 1) := by decide +kernel
theorem d_M_carries_44 : decode y_M_carries.2.1 44 = .ok (.baload, 1) := by decide +kernel
theorem d_M_carries_45 : decode y_M_carries.2.1 45 = .ok (.ifCond .eq 212, 3) := by decide +kernel
theorem d_M_carries_48 : decode y_M_carries.2.1 48 = .ok (.iload 4, 2) := by decide +kernel
theorem d_M_carries_50 : decode y_M_carries.2.1 50 = .ok (.aload_n 0, 1) := by decide +kernel
theorem d_M_carries_51 : decode y_M_carries.2.1 51 = .ok (.getfield 16, 3) := by decide +kernel
theorem d_M_carries_54 : decode y_M_carries.2.1 54 = .ok (.getfield 161, 3) := by decide +kernel
theorem d_M_carries_57 : decode y_M_carries.2.1 57 = .ok (.if_icmp .ge 200, 3) := by decide +kernel
theorem d_M_carries_60 : decode y_M_carries.2.1 60 = .ok (.aload_n 1, 1) := by decide +kernel
theorem d_M_carries_61 : decode y_M_carries.2.1 61 = .ok (.getfield 157, 3) := by decide +kernel
theorem d_M_carries_64 : decode y_M_carries.2.1 64 = .ok (.iload_n 3, 1) := by decide +kernel
theorem d_M_carries_65 : decode y_M_carries.2.1 65 = .ok (.iaload, 1) := by decide +kernel
theorem d_M_carries_66 : decode y_M_carries.2.1 66 = .ok (.iload 4, 2) := by decide +kernel
theorem d_M_carries_68 : decode y_M_carries.2.1 68 = .ok (.ishr, 1) := by decide +kernel
theorem d_M_carries_69 : decode y_M_carries.2.1 69 = .ok (.iconst 1, 1) := by decide +kernel
theorem d_M_carries_70 : decode y_M_carries.2.1 70 = .ok (.iand, 1) := by decide +kernel
theorem d_M_carries_71 : decode y_M_carries.2.1 71 = .ok (.ifCond .ne 7, 3) := by decide +kernel
theorem d_M_carries_74 : decode y_M_carries.2.1 74 = .ok (.iconst (-1), 1) := by decide +kernel
theorem d_M_carries_75 : decode y_M_carries.2.1 75 = .ok (.goto 25, 3) := by decide +kernel
theorem d_M_carries_78 : decode y_M_carries.2.1 78 = .ok (.aload_n 0, 1) := by decide +kernel
theorem d_M_carries_79 : decode y_M_carries.2.1 79 = .ok (.getfield 20, 3) := by decide +kernel
theorem d_M_carries_82 : decode y_M_carries.2.1 82 = .ok (.aload_n 0, 1) := by decide +kernel
theorem d_M_carries_83 : decode y_M_carries.2.1 83 = .ok (.getfield 16, 3) := by decide +kernel
theorem d_M_carries_86 : decode y_M_carries.2.1 86 = .ok (.aload_n 0, 1) := by decide +kernel
theorem d_M_carries_87 : decode y_M_carries.2.1 87 = .ok (.getfield 16, 3) := by decide +kernel
theorem d_M_carries_90 : decode y_M_carries.2.1 90 = .ok (.getfield 164, 3) := by decide +kernel
theorem d_M_carries_93 : decode y_M_carries.2.1 93 = .ok (.iload 4, 2) := by decide +kernel
theorem d_M_carries_95 : decode y_M_carries.2.1 95 = .ok (.iaload, 1) := by decide +kernel
theorem d_M_carries_96 : decode y_M_carries.2.1 96 = .ok (.iconst 2, 1) := by decide +kernel
theorem d_M_carries_97 : decode y_M_carries.2.1 97 = .ok (.invokevirtual 167, 3) := by decide +kernel
theorem d_M_carries_100 : decode y_M_carries.2.1 100 = .ok (.istore 5, 2) := by decide +kernel
theorem d_M_carries_102 : decode y_M_carries.2.1 102 = .ok (.iload 5, 2) := by decide +kernel
theorem d_M_carries_104 : decode y_M_carries.2.1 104 = .ok (.ifCond .ge 6, 3) := by decide +kernel
theorem d_M_carries_107 : decode y_M_carries.2.1 107 = .ok (.goto 144, 3) := by decide +kernel
theorem d_M_carries_110 : decode y_M_carries.2.1 110 = .ok (.aload_n 2, 1) := by decide +kernel
theorem d_M_carries_111 : decode y_M_carries.2.1 111 = .ok (.getfield 157, 3) := by decide +kernel
theorem d_M_carries_114 : decode y_M_carries.2.1 114 = .ok (.iload_n 3, 1) := by decide +kernel
theorem d_M_carries_115 : decode y_M_carries.2.1 115 = .ok (.dup2, 1) := by decide +kernel
theorem d_M_carries_116 : decode y_M_carries.2.1 116 = .ok (.iaload, 1) := by decide +kernel
theorem d_M_carries_117 : decode y_M_carries.2.1 117 = .ok (.iconst 1, 1) := by decide +kernel
theorem d_M_carries_118 : decode y_M_carries.2.1 118 = .ok (.iload 5, 2) := by decide +kernel
theorem d_M_carries_120 : decode y_M_carries.2.1 120 = .ok (.ishl, 1) := by decide +kernel
theorem d_M_carries_121 : decode y_M_carries.2.1 121 = .ok (.ior, 1) := by decide +kernel
theorem d_M_carries_122 : decode y_M_carries.2.1 122 = .ok (.iastore, 1) := by decide +kernel
theorem d_M_carries_123 : decode y_M_carries.2.1 123 = .ok (.aload_n 0, 1) := by decide +kernel
theorem d_M_carries_124 : decode y_M_carries.2.1 124 = .ok (.getfield 20, 3) := by decide +kernel
theorem d_M_carries_127 : decode y_M_carries.2.1 127 = .ok (.getfield 171, 3) := by decide +kernel
theorem d_M_carries_130 : decode y_M_carries.2.1 130 = .ok (.iload 5, 2) := by decide +kernel
theorem d_M_carries_132 : decode y_M_carries.2.1 132 = .ok (.iaload, 1) := by decide +kernel
theorem d_M_carries_133 : decode y_M_carries.2.1 133 = .ok (.istore 6, 2) := by decide +kernel
theorem d_M_carries_135 : decode y_M_carries.2.1 135 = .ok (.iload 6, 2) := by decide +kernel
theorem d_M_carries_137 : decode y_M_carries.2.1 137 = .ok (.aload_n 0, 1) := by decide +kernel
theorem d_M_carries_138 : decode y_M_carries.2.1 138 = .ok (.getfield 20, 3) := by decide +kernel
theorem d_M_carries_141 : decode y_M_carries.2.1 141 = .ok (.getfield 171, 3) := by decide +kernel
theorem d_M_carries_144 : decode y_M_carries.2.1 144 = .ok (.iload 5, 2) := by decide +kernel
theorem d_M_carries_146 : decode y_M_carries.2.1 146 = .ok (.iconst 1, 1) := by decide +kernel
theorem d_M_carries_147 : decode y_M_carries.2.1 147 = .ok (.iadd, 1) := by decide +kernel
theorem d_M_carries_148 : decode y_M_carries.2.1 148 = .ok (.iaload, 1) := by decide +kernel
theorem d_M_carries_149 : decode y_M_carries.2.1 149 = .ok (.if_icmp .ge 102, 3) := by decide +kernel
theorem d_M_carries_152 : decode y_M_carries.2.1 152 = .ok (.aload_n 0, 1) := by decide +kernel
theorem d_M_carries_153 : decode y_M_carries.2.1 153 = .ok (.getfield 16, 3) := by decide +kernel
theorem d_M_carries_156 : decode y_M_carries.2.1 156 = .ok (.iload 4, 2) := by decide +kernel
theorem d_M_carries_158 : decode y_M_carries.2.1 158 = .ok (.aload_n 0, 1) := by decide +kernel
theorem d_M_carries_159 : decode y_M_carries.2.1 159 = .ok (.getfield 20, 3) := by decide +kernel
theorem d_M_carries_162 : decode y_M_carries.2.1 162 = .ok (.aload_n 0, 1) := by decide +kernel
theorem d_M_carries_163 : decode y_M_carries.2.1 163 = .ok (.getfield 20, 3) := by decide +kernel
theorem d_M_carries_166 : decode y_M_carries.2.1 166 = .ok (.getfield 174, 3) := by decide +kernel
theorem d_M_carries_169 : decode y_M_carries.2.1 169 = .ok (.iload 6, 2) := by decide +kernel
theorem d_M_carries_171 : decode y_M_carries.2.1 171 = .ok (.iaload, 1) := by decide +kernel
theorem d_M_carries_172 : decode y_M_carries.2.1 172 = .ok (.invokevirtual 177, 3) := by decide +kernel
theorem d_M_carries_175 : decode y_M_carries.2.1 175 = .ok (.istore 7, 2) := by decide +kernel
theorem d_M_carries_177 : decode y_M_carries.2.1 177 = .ok (.aload_n 2, 1) := by decide +kernel
theorem d_M_carries_178 : decode y_M_carries.2.1 178 = .ok (.getfield 181, 3) := by decide +kernel
theorem d_M_carries_181 : decode y_M_carries.2.1 181 = .ok (.bipush 48, 2) := by decide +kernel
theorem d_M_carries_183 : decode y_M_carries.2.1 183 = .ok (.iload_n 3, 1) := by decide +kernel
theorem d_M_carries_184 : decode y_M_carries.2.1 184 = .ok (.imul, 1) := by decide +kernel
theorem d_M_carries_185 : decode y_M_carries.2.1 185 = .ok (.iload 6, 2) := by decide +kernel
theorem d_M_carries_187 : decode y_M_carries.2.1 187 = .ok (.iadd, 1) := by decide +kernel
theorem d_M_carries_188 : decode y_M_carries.2.1 188 = .ok (.iload 7, 2) := by decide +kernel
theorem d_M_carries_190 : decode y_M_carries.2.1 190 = .ok (.ifCond .ge 19, 3) := by decide +kernel
theorem d_M_carries_193 : decode y_M_carries.2.1 193 = .ok (.aload_n 0, 1) := by decide +kernel
theorem d_M_carries_194 : decode y_M_carries.2.1 194 = .ok (.getfield 20, 3) := by decide +kernel
theorem d_M_carries_197 : decode y_M_carries.2.1 197 = .ok (.getfield 184, 3) := by decide +kernel
theorem d_M_carries_200 : decode y_M_carries.2.1 200 = .ok (.iload 6, 2) := by decide +kernel
theorem d_M_carries_202 : decode y_M_carries.2.1 202 = .ok (.iaload, 1) := by decide +kernel
theorem d_M_carries_203 : decode y_M_carries.2.1 203 = .ok (.invokestatic 187, 3) := by decide +kernel
theorem d_M_carries_206 : decode y_M_carries.2.1 206 = .ok (.goto 38, 3) := by decide +kernel
theorem d_M_carries_209 : decode y_M_carries.2.1 209 = .ok (.aload_n 0, 1) := by decide +kernel
theorem d_M_carries_210 : decode y_M_carries.2.1 210 = .ok (.getfield 16, 3) := by decide +kernel
theorem d_M_carries_213 : decode y_M_carries.2.1 213 = .ok (.getfield 184, 3) := by decide +kernel
theorem d_M_carries_216 : decode y_M_carries.2.1 216 = .ok (.iload 7, 2) := by decide +kernel
theorem d_M_carries_218 : decode y_M_carries.2.1 218 = .ok (.iaload, 1) := by decide +kernel
theorem d_M_carries_219 : decode y_M_carries.2.1 219 = .ok (.aload_n 0, 1) := by decide +kernel
theorem d_M_carries_220 : decode y_M_carries.2.1 220 = .ok (.getfield 20, 3) := by decide +kernel
theorem d_M_carries_223 : decode y_M_carries.2.1 223 = .ok (.getfield 184, 3) := by decide +kernel
theorem d_M_carries_226 : decode y_M_carries.2.1 226 = .ok (.iload 6, 2) := by decide +kernel
theorem d_M_carries_228 : decode y_M_carries.2.1 228 = .ok (.iaload, 1) := by decide +kernel
theorem d_M_carries_229 : decode y_M_carries.2.1 229 = .ok (.aload_n 1, 1) := by decide +kernel
theorem d_M_carries_230 : decode y_M_carries.2.1 230 = .ok (.getfield 181, 3) := by decide +kernel
theorem d_M_carries_233 : decode y_M_carries.2.1 233 = .ok (.bipush 48, 2) := by decide +kernel
theorem d_M_carries_235 : decode y_M_carries.2.1 235 = .ok (.iload_n 3, 1) := by decide +kernel
theorem d_M_carries_236 : decode y_M_carries.2.1 236 = .ok (.imul, 1) := by decide +kernel
theorem d_M_carries_237 : decode y_M_carries.2.1 237 = .ok (.iload 7, 2) := by decide +kernel
theorem d_M_carries_239 : decode y_M_carries.2.1 239 = .ok (.iadd, 1) := by decide +kernel
theorem d_M_carries_240 : decode y_M_carries.2.1 240 = .ok (.iaload, 1) := by decide +kernel
theorem d_M_carries_241 : decode y_M_carries.2.1 241 = .ok (.invokestatic 191, 3) := by decide +kernel
theorem d_M_carries_244 : decode y_M_carries.2.1 244 = .ok (.iastore, 1) := by decide +kernel
theorem d_M_carries_245 : decode y_M_carries.2.1 245 = .ok (.iinc 6 1, 3) := by decide +kernel
theorem d_M_carries_248 : decode y_M_carries.2.1 248 = .ok (.goto (-113), 3) := by decide +kernel
theorem d_M_carries_251 : decode y_M_carries.2.1 251 = .ok (.iinc 4 1, 3) := by decide +kernel
theorem d_M_carries_254 : decode y_M_carries.2.1 254 = .ok (.goto (-215), 3) := by decide +kernel
theorem d_M_carries_257 : decode y_M_carries.2.1 257 = .ok (.iinc 3 1, 3) := by decide +kernel
theorem d_M_carries_260 : decode y_M_carries.2.1 260 = .ok (.goto (-238), 3) := by decide +kernel
theorem d_M_carries_263 : decode y_M_carries.2.1 263 = .ok (.aload_n 2, 1) := by decide +kernel
theorem d_M_carries_264 : decode y_M_carries.2.1 264 = .ok (.iconst 0, 1) := by decide +kernel
theorem d_M_carries_265 : decode y_M_carries.2.1 265 = .ok (.putfield 195, 3) := by decide +kernel
theorem d_M_carries_268 : decode y_M_carries.2.1 268 = .ok (.iconst 0, 1) := by decide +kernel
theorem d_M_carries_269 : decode y_M_carries.2.1 269 = .ok (.istore_n 3, 1) := by decide +kernel
theorem d_M_carries_270 : decode y_M_carries.2.1 270 = .ok (.iload_n 3, 1) := by decide +kernel
theorem d_M_carries_271 : decode y_M_carries.2.1 271 = .ok (.aload_n 1, 1) := by decide +kernel
theorem d_M_carries_272 : decode y_M_carries.2.1 272 = .ok (.getfield 195, 3) := by decide +kernel
theorem d_M_carries_275 : decode y_M_carries.2.1 275 = .ok (.if_icmp .ge 90, 3) := by decide +kernel
theorem d_M_carries_278 : decode y_M_carries.2.1 278 = .ok (.aload_n 0, 1) := by decide +kernel
theorem d_M_carries_279 : decode y_M_carries.2.1 279 = .ok (.getfield 20, 3) := by decide +kernel
theorem d_M_carries_282 : decode y_M_carries.2.1 282 = .ok (.aload_n 0, 1) := by decide +kernel
theorem d_M_carries_283 : decode y_M_carries.2.1 283 = .ok (.getfield 16, 3) := by decide +kernel
theorem d_M_carries_286 : decode y_M_carries.2.1 286 = .ok (.aload_n 0, 1) := by decide +kernel
theorem d_M_carries_287 : decode y_M_carries.2.1 287 = .ok (.getfield 16, 3) := by decide +kernel
theorem d_M_carries_290 : decode y_M_carries.2.1 290 = .ok (.getfield 198, 3) := by decide +kernel
theorem d_M_carries_293 : decode y_M_carries.2.1 293 = .ok (.aload_n 1, 1) := by decide +kernel
theorem d_M_carries_294 : decode y_M_carries.2.1 294 = .ok (.getfield 201, 3) := by decide +kernel
theorem d_M_carries_297 : decode y_M_carries.2.1 297 = .ok (.iload_n 3, 1) := by decide +kernel
theorem d_M_carries_298 : decode y_M_carries.2.1 298 = .ok (.iaload, 1) := by decide +kernel
theorem d_M_carries_299 : decode y_M_carries.2.1 299 = .ok (.iaload, 1) := by decide +kernel
theorem d_M_carries_300 : decode y_M_carries.2.1 300 = .ok (.iconst 3, 1) := by decide +kernel
theorem d_M_carries_301 : decode y_M_carries.2.1 301 = .ok (.invokevirtual 167, 3) := by decide +kernel
theorem d_M_carries_304 : decode y_M_carries.2.1 304 = .ok (.istore 4, 2) := by decide +kernel
theorem d_M_carries_306 : decode y_M_carries.2.1 306 = .ok (.iload 4, 2) := by decide +kernel
theorem d_M_carries_308 : decode y_M_carries.2.1 308 = .ok (.ifCond .lt 51, 3) := by decide +kernel
theorem d_M_carries_311 : decode y_M_carries.2.1 311 = .ok (.aload_n 0, 1) := by decide +kernel
theorem d_M_carries_312 : decode y_M_carries.2.1 312 = .ok (.getfield 20, 3) := by decide +kernel
theorem d_M_carries_315 : decode y_M_carries.2.1 315 = .ok (.iload 4, 2) := by decide +kernel
theorem d_M_carries_317 : decode y_M_carries.2.1 317 = .ok (.aload_n 0, 1) := by decide +kernel
theorem d_M_carries_318 : decode y_M_carries.2.1 318 = .ok (.getfield 16, 3) := by decide +kernel
theorem d_M_carries_321 : decode y_M_carries.2.1 321 = .ok (.aload_n 1, 1) := by decide +kernel
theorem d_M_carries_322 : decode y_M_carries.2.1 322 = .ok (.getfield 201, 3) := by decide +kernel
theorem d_M_carries_325 : decode y_M_carries.2.1 325 = .ok (.iload_n 3, 1) := by decide +kernel
theorem d_M_carries_326 : decode y_M_carries.2.1 326 = .ok (.iaload, 1) := by decide +kernel
theorem d_M_carries_327 : decode y_M_carries.2.1 327 = .ok (.invokevirtual 204, 3) := by decide +kernel
theorem d_M_carries_330 : decode y_M_carries.2.1 330 = .ok (.ifCond .eq 29, 3) := by decide +kernel
theorem d_M_carries_333 : decode y_M_carries.2.1 333 = .ok (.aload_n 2, 1) := by decide +kernel
theorem d_M_carries_334 : decode y_M_carries.2.1 334 = .ok (.iload 4, 2) := by decide +kernel
theorem d_M_carries_336 : decode y_M_carries.2.1 336 = .ok (.aload_n 1, 1) := by decide +kernel
theorem d_M_carries_337 : decode y_M_carries.2.1 337 = .ok (.getfield 208, 3) := by decide +kernel
theorem d_M_carries_340 : decode y_M_carries.2.1 340 = .ok (.iload_n 3, 1) := by decide +kernel
theorem d_M_carries_341 : decode y_M_carries.2.1 341 = .ok (.iaload, 1) := by decide +kernel
theorem d_M_carries_342 : decode y_M_carries.2.1 342 = .ok (.aload_n 1, 1) := by decide +kernel
theorem d_M_carries_343 : decode y_M_carries.2.1 343 = .ok (.getfield 211, 3) := by decide +kernel
theorem d_M_carries_346 : decode y_M_carries.2.1 346 = .ok (.iload_n 3, 1) := by decide +kernel
theorem d_M_carries_347 : decode y_M_carries.2.1 347 = .ok (.iaload, 1) := by decide +kernel
theorem d_M_carries_348 : decode y_M_carries.2.1 348 = .ok (.aload_n 1, 1) := by decide +kernel
theorem d_M_carries_349 : decode y_M_carries.2.1 349 = .ok (.getfield 214, 3) := by decide +kernel
theorem d_M_carries_352 : decode y_M_carries.2.1 352 = .ok (.iconst 4, 1) := by decide +kernel
theorem d_M_carries_353 : decode y_M_carries.2.1 353 = .ok (.iload_n 3, 1) := by decide +kernel
theorem d_M_carries_354 : decode y_M_carries.2.1 354 = .ok (.imul, 1) := by decide +kernel
theorem d_M_carries_355 : decode y_M_carries.2.1 355 = .ok (.invokevirtual 217, 3) := by decide +kernel
theorem d_M_carries_358 : decode y_M_carries.2.1 358 = .ok (.pop, 1) := by decide +kernel
theorem d_M_carries_359 : decode y_M_carries.2.1 359 = .ok (.iinc 3 1, 3) := by decide +kernel
theorem d_M_carries_362 : decode y_M_carries.2.1 362 = .ok (.goto (-92), 3) := by decide +kernel
theorem d_M_carries_365 : decode y_M_carries.2.1 365 = .ok (.return_, 1) := by decide +kernel
def y_M_step : ab_Y := (⟨"WorldEngineModel", "step", "()I"⟩, prog_14_method_22_code, 2, (some FieldType.int), [])
theorem d_M_step_0 : decode y_M_step.2.1 0 = .ok (.aload_n 0, 1) := by decide +kernel
theorem d_M_step_1 : decode y_M_step.2.1 1 = .ok (.iconst 0, 1) := by decide +kernel
theorem d_M_step_2 : decode y_M_step.2.1 2 = .ok (.putfield 83, 3) := by decide +kernel
theorem d_M_step_5 : decode y_M_step.2.1 5 = .ok (.aload_n 0, 1) := by decide +kernel
theorem d_M_step_6 : decode y_M_step.2.1 6 = .ok (.getfield 37, 3) := by decide +kernel
theorem d_M_step_9 : decode y_M_step.2.1 9 = .ok (.getfield 145, 3) := by decide +kernel
theorem d_M_step_12 : decode y_M_step.2.1 12 = .ok (.aload_n 0, 1) := by decide +kernel
theorem d_M_step_13 : decode y_M_step.2.1 13 = .ok (.getfield 33, 3) := by decide +kernel
theorem d_M_step_16 : decode y_M_step.2.1 16 = .ok (.getfield 145, 3) := by decide +kernel
theorem d_M_step_19 : decode y_M_step.2.1 19 = .ok (.isub, 1) := by decide +kernel
theorem d_M_step_20 : decode y_M_step.2.1 20 = .ok (.bipush 16, 2) := by decide +kernel
theorem d_M_step_22 : decode y_M_step.2.1 22 = .ok (.if_icmp .ne 5, 3) := by decide +kernel
theorem d_M_step_25 : decode y_M_step.2.1 25 = .ok (.iconst (-1), 1) := by decide +kernel
theorem d_M_step_26 : decode y_M_step.2.1 26 = .ok (.ireturn, 1) := by decide +kernel
theorem d_M_step_27 : decode y_M_step.2.1 27 = .ok (.aload_n 0, 1) := by decide +kernel
theorem d_M_step_28 : decode y_M_step.2.1 28 = .ok (.iconst 0, 1) := by decide +kernel
theorem d_M_step_29 : decode y_M_step.2.1 29 = .ok (.invokevirtual 247, 3) := by decide +kernel
theorem d_M_step_32 : decode y_M_step.2.1 32 = .ok (.ifCond .ne 6, 3) := by decide +kernel
theorem d_M_step_35 : decode y_M_step.2.1 35 = .ok (.bipush (-2), 2) := by decide +kernel
theorem d_M_step_37 : decode y_M_step.2.1 37 = .ok (.ireturn, 1) := by decide +kernel
theorem d_M_step_38 : decode y_M_step.2.1 38 = .ok (.aload_n 0, 1) := by decide +kernel
theorem d_M_step_39 : decode y_M_step.2.1 39 = .ok (.getfield 113, 3) := by decide +kernel
theorem d_M_step_42 : decode y_M_step.2.1 42 = .ok (.ifCond .ne 6, 3) := by decide +kernel
theorem d_M_step_45 : decode y_M_step.2.1 45 = .ok (.bipush (-3), 2) := by decide +kernel
theorem d_M_step_47 : decode y_M_step.2.1 47 = .ok (.ireturn, 1) := by decide +kernel
theorem d_M_step_48 : decode y_M_step.2.1 48 = .ok (.aload_n 0, 1) := by decide +kernel
theorem d_M_step_49 : decode y_M_step.2.1 49 = .ok (.getfield 37, 3) := by decide +kernel
theorem d_M_step_52 : decode y_M_step.2.1 52 = .ok (.getfield 145, 3) := by decide +kernel
theorem d_M_step_55 : decode y_M_step.2.1 55 = .ok (.ldc 251, 2) := by decide +kernel
theorem d_M_step_57 : decode y_M_step.2.1 57 = .ok (.if_icmp .ne 6, 3) := by decide +kernel
theorem d_M_step_60 : decode y_M_step.2.1 60 = .ok (.bipush (-4), 2) := by decide +kernel
theorem d_M_step_62 : decode y_M_step.2.1 62 = .ok (.ireturn, 1) := by decide +kernel
theorem d_M_step_63 : decode y_M_step.2.1 63 = .ok (.aload_n 0, 1) := by decide +kernel
theorem d_M_step_64 : decode y_M_step.2.1 64 = .ok (.getfield 61, 3) := by decide +kernel
theorem d_M_step_67 : decode y_M_step.2.1 67 = .ok (.aload_n 0, 1) := by decide +kernel
theorem d_M_step_68 : decode y_M_step.2.1 68 = .ok (.getfield 37, 3) := by decide +kernel
theorem d_M_step_71 : decode y_M_step.2.1 71 = .ok (.getfield 145, 3) := by decide +kernel
theorem d_M_step_74 : decode y_M_step.2.1 74 = .ok (.iconst 1, 1) := by decide +kernel
theorem d_M_step_75 : decode y_M_step.2.1 75 = .ok (.iadd, 1) := by decide +kernel
theorem d_M_step_76 : decode y_M_step.2.1 76 = .ok (.bipush 63, 2) := by decide +kernel
theorem d_M_step_78 : decode y_M_step.2.1 78 = .ok (.iand, 1) := by decide +kernel
theorem d_M_step_79 : decode y_M_step.2.1 79 = .ok (.aload_n 0, 1) := by decide +kernel
theorem d_M_step_80 : decode y_M_step.2.1 80 = .ok (.getfield 50, 3) := by decide +kernel
theorem d_M_step_83 : decode y_M_step.2.1 83 = .ok (.iastore, 1) := by decide +kernel
theorem d_M_step_84 : decode y_M_step.2.1 84 = .ok (.aload_n 0, 1) := by decide +kernel
theorem d_M_step_85 : decode y_M_step.2.1 85 = .ok (.aload_n 0, 1) := by decide +kernel
theorem d_M_step_86 : decode y_M_step.2.1 86 = .ok (.getfield 37, 3) := by decide +kernel
theorem d_M_step_89 : decode y_M_step.2.1 89 = .ok (.invokevirtual 238, 3) := by decide +kernel
theorem d_M_step_92 : decode y_M_step.2.1 92 = .ok (.iconst 0, 1) := by decide +kernel
theorem d_M_step_93 : decode y_M_step.2.1 93 = .ok (.istore_n 1, 1) := by decide +kernel
theorem d_M_step_94 : decode y_M_step.2.1 94 = .ok (.iload_n 1, 1) := by decide +kernel
theorem d_M_step_95 : decode y_M_step.2.1 95 = .ok (.bipush 8, 2) := by decide +kernel
theorem d_M_step_97 : decode y_M_step.2.1 97 = .ok (.if_icmp .ge 45, 3) := by decide +kernel
theorem d_M_step_100 : decode y_M_step.2.1 100 = .ok (.aload_n 0, 1) := by decide +kernel
theorem d_M_step_101 : decode y_M_step.2.1 101 = .ok (.getfield 77, 3) := by decide +kernel
theorem d_M_step_104 : decode y_M_step.2.1 104 = .ok (.iload_n 1, 1) := by decide +kernel
theorem d_M_step_105 : decode y_M_step.2.1 105 = .ok (.aload_n 0, 1) := by decide +kernel
theorem d_M_step_106 : decode y_M_step.2.1 106 = .ok (.getfield 77, 3) := by decide +kernel
theorem d_M_step_109 : decode y_M_step.2.1 109 = .ok (.iload_n 1, 1) := by decide +kernel
theorem d_M_step_110 : decode y_M_step.2.1 110 = .ok (.baload, 1) := by decide +kernel
theorem d_M_step_111 : decode y_M_step.2.1 111 = .ok (.ifCond .eq 16, 3) := by decide +kernel
theorem d_M_step_114 : decode y_M_step.2.1 114 = .ok (.aload_n 0, 1) := by decide +kernel
theorem d_M_step_115 : decode y_M_step.2.1 115 = .ok (.getfield 80, 3) := by decide +kernel
theorem d_M_step_118 : decode y_M_step.2.1 118 = .ok (.iload_n 1, 1) := by decide +kernel
theorem d_M_step_119 : decode y_M_step.2.1 119 = .ok (.baload, 1) := by decide +kernel
theorem d_M_step_120 : decode y_M_step.2.1 120 = .ok (.ifCond .ne 7, 3) := by decide +kernel
theorem d_M_step_123 : decode y_M_step.2.1 123 = .ok (.iconst 1, 1) := by decide +kernel
theorem d_M_step_124 : decode y_M_step.2.1 124 = .ok (.goto 4, 3) := by decide +kernel
theorem d_M_step_127 : decode y_M_step.2.1 127 = .ok (.iconst 0, 1) := by decide +kernel
theorem d_M_step_128 : decode y_M_step.2.1 128 = .ok (.bastore, 1) := by decide +kernel
theorem d_M_step_129 : decode y_M_step.2.1 129 = .ok (.aload_n 0, 1) := by decide +kernel
theorem d_M_step_130 : decode y_M_step.2.1 130 = .ok (.getfield 80, 3) := by decide +kernel
theorem d_M_step_133 : decode y_M_step.2.1 133 = .ok (.iload_n 1, 1) := by decide +kernel
theorem d_M_step_134 : decode y_M_step.2.1 134 = .ok (.iconst 0, 1) := by decide +kernel
theorem d_M_step_135 : decode y_M_step.2.1 135 = .ok (.bastore, 1) := by decide +kernel
theorem d_M_step_136 : decode y_M_step.2.1 136 = .ok (.iinc 1 1, 3) := by decide +kernel
theorem d_M_step_139 : decode y_M_step.2.1 139 = .ok (.goto (-45), 3) := by decide +kernel
theorem d_M_step_142 : decode y_M_step.2.1 142 = .ok (.aload_n 0, 1) := by decide +kernel
theorem d_M_step_143 : decode y_M_step.2.1 143 = .ok (.invokevirtual 252, 3) := by decide +kernel
theorem d_M_step_146 : decode y_M_step.2.1 146 = .ok (.aload_n 0, 1) := by decide +kernel
theorem d_M_step_147 : decode y_M_step.2.1 147 = .ok (.getfield 37, 3) := by decide +kernel
theorem d_M_step_150 : decode y_M_step.2.1 150 = .ok (.getfield 145, 3) := by decide +kernel
theorem d_M_step_153 : decode y_M_step.2.1 153 = .ok (.ireturn, 1) := by decide +kernel
def y_M_workers : ab_Y := (⟨"WorldEngineModel", "workers", "(Z)I"⟩, prog_14_method_21_code, 4, (some FieldType.int), [])
theorem d_M_workers_0 : decode y_M_workers.2.1 0 = .ok (.iconst 0, 1) := by decide +kernel
theorem d_M_workers_1 : decode y_M_workers.2.1 1 = .ok (.istore_n 2, 1) := by decide +kernel
theorem d_M_workers_2 : decode y_M_workers.2.1 2 = .ok (.iconst 0, 1) := by decide +kernel
theorem d_M_workers_3 : decode y_M_workers.2.1 3 = .ok (.istore_n 3, 1) := by decide +kernel
theorem d_M_workers_4 : decode y_M_workers.2.1 4 = .ok (.iload_n 3, 1) := by decide +kernel
theorem d_M_workers_5 : decode y_M_workers.2.1 5 = .ok (.bipush 8, 2) := by decide +kernel
theorem d_M_workers_7 : decode y_M_workers.2.1 7 = .ok (.if_icmp .ge 39, 3) := by decide +kernel
theorem d_M_workers_10 : decode y_M_workers.2.1 10 = .ok (.iload_n 2, 1) := by decide +kernel
theorem d_M_workers_11 : decode y_M_workers.2.1 11 = .ok (.aload_n 0, 1) := by decide +kernel
theorem d_M_workers_12 : decode y_M_workers.2.1 12 = .ok (.getfield 77, 3) := by decide +kernel
theorem d_M_workers_15 : decode y_M_workers.2.1 15 = .ok (.iload_n 3, 1) := by decide +kernel
theorem d_M_workers_16 : decode y_M_workers.2.1 16 = .ok (.baload, 1) := by decide +kernel
theorem d_M_workers_17 : decode y_M_workers.2.1 17 = .ok (.ifCond .eq 20, 3) := by decide +kernel
theorem d_M_workers_20 : decode y_M_workers.2.1 20 = .ok (.iload_n 1, 1) := by decide +kernel
theorem d_M_workers_21 : decode y_M_workers.2.1 21 = .ok (.ifCond .ne 12, 3) := by decide +kernel
theorem d_M_workers_24 : decode y_M_workers.2.1 24 = .ok (.aload_n 0, 1) := by decide +kernel
theorem d_M_workers_25 : decode y_M_workers.2.1 25 = .ok (.getfield 80, 3) := by decide +kernel
theorem d_M_workers_28 : decode y_M_workers.2.1 28 = .ok (.iload_n 3, 1) := by decide +kernel
theorem d_M_workers_29 : decode y_M_workers.2.1 29 = .ok (.baload, 1) := by decide +kernel
theorem d_M_workers_30 : decode y_M_workers.2.1 30 = .ok (.ifCond .ne 7, 3) := by decide +kernel
theorem d_M_workers_33 : decode y_M_workers.2.1 33 = .ok (.iconst 1, 1) := by decide +kernel
theorem d_M_workers_34 : decode y_M_workers.2.1 34 = .ok (.goto 4, 3) := by decide +kernel
theorem d_M_workers_37 : decode y_M_workers.2.1 37 = .ok (.iconst 0, 1) := by decide +kernel
theorem d_M_workers_38 : decode y_M_workers.2.1 38 = .ok (.iadd, 1) := by decide +kernel
theorem d_M_workers_39 : decode y_M_workers.2.1 39 = .ok (.istore_n 2, 1) := by decide +kernel
theorem d_M_workers_40 : decode y_M_workers.2.1 40 = .ok (.iinc 3 1, 3) := by decide +kernel
theorem d_M_workers_43 : decode y_M_workers.2.1 43 = .ok (.goto (-39), 3) := by decide +kernel
theorem d_M_workers_46 : decode y_M_workers.2.1 46 = .ok (.iload_n 2, 1) := by decide +kernel
theorem d_M_workers_47 : decode y_M_workers.2.1 47 = .ok (.ireturn, 1) := by decide +kernel
def y_M_input : ab_Y := (⟨"WorldEngineModel", "input", "(III)I"⟩, prog_14_method_23_code, 6, (some FieldType.int), [])
theorem d_M_input_0 : decode y_M_input.2.1 0 = .ok (.aload_n 0, 1) := by decide +kernel
theorem d_M_input_1 : decode y_M_input.2.1 1 = .ok (.iconst 0, 1) := by decide +kernel
theorem d_M_input_2 : decode y_M_input.2.1 2 = .ok (.putfield 83, 3) := by decide +kernel
theorem d_M_input_5 : decode y_M_input.2.1 5 = .ok (.iload_n 1, 1) := by decide +kernel
theorem d_M_input_6 : decode y_M_input.2.1 6 = .ok (.i2l, 1) := by decide +kernel
theorem d_M_input_7 : decode y_M_input.2.1 7 = .ok (.lconst 0, 1) := by decide +kernel
theorem d_M_input_8 : decode y_M_input.2.1 8 = .ok (.ldc2_w 255, 3) := by decide +kernel
theorem d_M_input_11 : decode y_M_input.2.1 11 = .ok (.invokestatic 99, 3) := by decide +kernel
theorem d_M_input_14 : decode y_M_input.2.1 14 = .ok (.ifCond .ne 5, 3) := by decide +kernel
theorem d_M_input_17 : decode y_M_input.2.1 17 = .ok (.iconst (-1), 1) := by decide +kernel
theorem d_M_input_18 : decode y_M_input.2.1 18 = .ok (.ireturn, 1) := by decide +kernel
theorem d_M_input_19 : decode y_M_input.2.1 19 = .ok (.iload_n 2, 1) := by decide +kernel
theorem d_M_input_20 : decode y_M_input.2.1 20 = .ok (.i2l, 1) := by decide +kernel
theorem d_M_input_21 : decode y_M_input.2.1 21 = .ok (.aload_n 0, 1) := by decide +kernel
theorem d_M_input_22 : decode y_M_input.2.1 22 = .ok (.getfield 33, 3) := by decide +kernel
theorem d_M_input_25 : decode y_M_input.2.1 25 = .ok (.getfield 145, 3) := by decide +kernel
theorem d_M_input_28 : decode y_M_input.2.1 28 = .ok (.i2l, 1) := by decide +kernel
theorem d_M_input_29 : decode y_M_input.2.1 29 = .ok (.lconst 1, 1) := by decide +kernel
theorem d_M_input_30 : decode y_M_input.2.1 30 = .ok (.ladd, 1) := by decide +kernel
theorem d_M_input_31 : decode y_M_input.2.1 31 = .ok (.aload_n 0, 1) := by decide +kernel
theorem d_M_input_32 : decode y_M_input.2.1 32 = .ok (.getfield 37, 3) := by decide +kernel
theorem d_M_input_35 : decode y_M_input.2.1 35 = .ok (.getfield 145, 3) := by decide +kernel
theorem d_M_input_38 : decode y_M_input.2.1 38 = .ok (.i2l, 1) := by decide +kernel
theorem d_M_input_39 : decode y_M_input.2.1 39 = .ok (.ldc2_w 257, 3) := by decide +kernel
theorem d_M_input_42 : decode y_M_input.2.1 42 = .ok (.ladd, 1) := by decide +kernel
theorem d_M_input_43 : decode y_M_input.2.1 43 = .ok (.invokestatic 99, 3) := by decide +kernel
theorem d_M_input_46 : decode y_M_input.2.1 46 = .ok (.ifCond .ne 6, 3) := by decide +kernel
theorem d_M_input_49 : decode y_M_input.2.1 49 = .ok (.bipush (-2), 2) := by decide +kernel
theorem d_M_input_51 : decode y_M_input.2.1 51 = .ok (.ireturn, 1) := by decide +kernel
theorem d_M_input_52 : decode y_M_input.2.1 52 = .ok (.iload_n 2, 1) := by decide +kernel
theorem d_M_input_53 : decode y_M_input.2.1 53 = .ok (.aload_n 0, 1) := by decide +kernel
theorem d_M_input_54 : decode y_M_input.2.1 54 = .ok (.getfield 37, 3) := by decide +kernel
theorem d_M_input_57 : decode y_M_input.2.1 57 = .ok (.getfield 145, 3) := by decide +kernel
theorem d_M_input_60 : decode y_M_input.2.1 60 = .ok (.if_icmp .le 10, 3) := by decide +kernel
theorem d_M_input_63 : decode y_M_input.2.1 63 = .ok (.aload_n 0, 1) := by decide +kernel
theorem d_M_input_64 : decode y_M_input.2.1 64 = .ok (.getfield 50, 3) := by decide +kernel
theorem d_M_input_67 : decode y_M_input.2.1 67 = .ok (.goto 12, 3) := by decide +kernel
theorem d_M_input_70 : decode y_M_input.2.1 70 = .ok (.aload_n 0, 1) := by decide +kernel
theorem d_M_input_71 : decode y_M_input.2.1 71 = .ok (.getfield 61, 3) := by decide +kernel
theorem d_M_input_74 : decode y_M_input.2.1 74 = .ok (.iload_n 2, 1) := by decide +kernel
theorem d_M_input_75 : decode y_M_input.2.1 75 = .ok (.bipush 63, 2) := by decide +kernel
theorem d_M_input_77 : decode y_M_input.2.1 77 = .ok (.iand, 1) := by decide +kernel
theorem d_M_input_78 : decode y_M_input.2.1 78 = .ok (.iaload, 1) := by decide +kernel
theorem d_M_input_79 : decode y_M_input.2.1 79 = .ok (.istore 4, 2) := by decide +kernel
theorem d_M_input_81 : decode y_M_input.2.1 81 = .ok (.iload 4, 2) := by decide +kernel
theorem d_M_input_83 : decode y_M_input.2.1 83 = .ok (.iload_n 1, 1) := by decide +kernel
theorem d_M_input_84 : decode y_M_input.2.1 84 = .ok (.ishr, 1) := by decide +kernel
theorem d_M_input_85 : decode y_M_input.2.1 85 = .ok (.iconst 1, 1) := by decide +kernel
theorem d_M_input_86 : decode y_M_input.2.1 86 = .ok (.iand, 1) := by decide +kernel
theorem d_M_input_87 : decode y_M_input.2.1 87 = .ok (.ifCond .ne 6, 3) := by decide +kernel
theorem d_M_input_90 : decode y_M_input.2.1 90 = .ok (.bipush (-3), 2) := by decide +kernel
theorem d_M_input_92 : decode y_M_input.2.1 92 = .ok (.ireturn, 1) := by decide +kernel
theorem d_M_input_93 : decode y_M_input.2.1 93 = .ok (.aload_n 0, 1) := by decide +kernel
theorem d_M_input_94 : decode y_M_input.2.1 94 = .ok (.getfield 57, 3) := by decide +kernel
theorem d_M_input_97 : decode y_M_input.2.1 97 = .ok (.aload_n 0, 1) := by decide +kernel
theorem d_M_input_98 : decode y_M_input.2.1 98 = .ok (.iload_n 1, 1) := by decide +kernel
theorem d_M_input_99 : decode y_M_input.2.1 99 = .ok (.iload_n 2, 1) := by decide +kernel
theorem d_M_input_100 : decode y_M_input.2.1 100 = .ok (.invokevirtual 227, 3) := by decide +kernel
theorem d_M_input_103 : decode y_M_input.2.1 103 = .ok (.baload, 1) := by decide +kernel
theorem d_M_input_104 : decode y_M_input.2.1 104 = .ok (.ifCond .eq 6, 3) := by decide +kernel
theorem d_M_input_107 : decode y_M_input.2.1 107 = .ok (.bipush (-4), 2) := by decide +kernel
theorem d_M_input_109 : decode y_M_input.2.1 109 = .ok (.ireturn, 1) := by decide +kernel
theorem d_M_input_110 : decode y_M_input.2.1 110 = .ok (.iconst 0, 1) := by decide +kernel
theorem d_M_input_111 : decode y_M_input.2.1 111 = .ok (.istore 5, 2) := by decide +kernel
theorem d_M_input_113 : decode y_M_input.2.1 113 = .ok (.iload_n 2, 1) := by decide +kernel
theorem d_M_input_114 : decode y_M_input.2.1 114 = .ok (.aload_n 0, 1) := by decide +kernel
theorem d_M_input_115 : decode y_M_input.2.1 115 = .ok (.getfield 37, 3) := by decide +kernel
theorem d_M_input_118 : decode y_M_input.2.1 118 = .ok (.getfield 145, 3) := by decide +kernel
theorem d_M_input_121 : decode y_M_input.2.1 121 = .ok (.if_icmp .gt 35, 3) := by decide +kernel
theorem d_M_input_124 : decode y_M_input.2.1 124 = .ok (.aload_n 0, 1) := by decide +kernel
theorem d_M_input_125 : decode y_M_input.2.1 125 = .ok (.iload_n 2, 1) := by decide +kernel
theorem d_M_input_126 : decode y_M_input.2.1 126 = .ok (.invokevirtual 231, 3) := by decide +kernel
theorem d_M_input_129 : decode y_M_input.2.1 129 = .ok (.aload_n 0, 1) := by decide +kernel
theorem d_M_input_130 : decode y_M_input.2.1 130 = .ok (.getfield 67, 3) := by decide +kernel
theorem d_M_input_133 : decode y_M_input.2.1 133 = .ok (.iload_n 1, 1) := by decide +kernel
theorem d_M_input_134 : decode y_M_input.2.1 134 = .ok (.iaload, 1) := by decide +kernel
theorem d_M_input_135 : decode y_M_input.2.1 135 = .ok (.iload_n 3, 1) := by decide +kernel
theorem d_M_input_136 : decode y_M_input.2.1 136 = .ok (.if_icmp .ne 7, 3) := by decide +kernel
theorem d_M_input_139 : decode y_M_input.2.1 139 = .ok (.iconst 0, 1) := by decide +kernel
theorem d_M_input_140 : decode y_M_input.2.1 140 = .ok (.goto 14, 3) := by decide +kernel
theorem d_M_input_143 : decode y_M_input.2.1 143 = .ok (.aload_n 0, 1) := by decide +kernel
theorem d_M_input_144 : decode y_M_input.2.1 144 = .ok (.getfield 37, 3) := by decide +kernel
theorem d_M_input_147 : decode y_M_input.2.1 147 = .ok (.getfield 145, 3) := by decide +kernel
theorem d_M_input_150 : decode y_M_input.2.1 150 = .ok (.iload_n 2, 1) := by decide +kernel
theorem d_M_input_151 : decode y_M_input.2.1 151 = .ok (.isub, 1) := by decide +kernel
theorem d_M_input_152 : decode y_M_input.2.1 152 = .ok (.iconst 1, 1) := by decide +kernel
theorem d_M_input_153 : decode y_M_input.2.1 153 = .ok (.iadd, 1) := by decide +kernel
theorem d_M_input_154 : decode y_M_input.2.1 154 = .ok (.istore 5, 2) := by decide +kernel
theorem d_M_input_156 : decode y_M_input.2.1 156 = .ok (.aload_n 0, 1) := by decide +kernel
theorem d_M_input_157 : decode y_M_input.2.1 157 = .ok (.getfield 53, 3) := by decide +kernel
theorem d_M_input_160 : decode y_M_input.2.1 160 = .ok (.aload_n 0, 1) := by decide +kernel
theorem d_M_input_161 : decode y_M_input.2.1 161 = .ok (.iload_n 1, 1) := by decide +kernel
theorem d_M_input_162 : decode y_M_input.2.1 162 = .ok (.iload_n 2, 1) := by decide +kernel
theorem d_M_input_163 : decode y_M_input.2.1 163 = .ok (.invokevirtual 227, 3) := by decide +kernel
theorem d_M_input_166 : decode y_M_input.2.1 166 = .ok (.iload_n 3, 1) := by decide +kernel
theorem d_M_input_167 : decode y_M_input.2.1 167 = .ok (.iastore, 1) := by decide +kernel
theorem d_M_input_168 : decode y_M_input.2.1 168 = .ok (.aload_n 0, 1) := by decide +kernel
theorem d_M_input_169 : decode y_M_input.2.1 169 = .ok (.getfield 57, 3) := by decide +kernel
theorem d_M_input_172 : decode y_M_input.2.1 172 = .ok (.aload_n 0, 1) := by decide +kernel
theorem d_M_input_173 : decode y_M_input.2.1 173 = .ok (.iload_n 1, 1) := by decide +kernel
theorem d_M_input_174 : decode y_M_input.2.1 174 = .ok (.iload_n 2, 1) := by decide +kernel
theorem d_M_input_175 : decode y_M_input.2.1 175 = .ok (.invokevirtual 227, 3) := by decide +kernel
theorem d_M_input_178 : decode y_M_input.2.1 178 = .ok (.iconst 1, 1) := by decide +kernel
theorem d_M_input_179 : decode y_M_input.2.1 179 = .ok (.bastore, 1) := by decide +kernel
theorem d_M_input_180 : decode y_M_input.2.1 180 = .ok (.iload 5, 2) := by decide +kernel
theorem d_M_input_182 : decode y_M_input.2.1 182 = .ok (.ifCond .le 7, 3) := by decide +kernel
theorem d_M_input_185 : decode y_M_input.2.1 185 = .ok (.aload_n 0, 1) := by decide +kernel
theorem d_M_input_186 : decode y_M_input.2.1 186 = .ok (.invokevirtual 259, 3) := by decide +kernel
theorem d_M_input_189 : decode y_M_input.2.1 189 = .ok (.aload_n 0, 1) := by decide +kernel
theorem d_M_input_190 : decode y_M_input.2.1 190 = .ok (.dup, 1) := by decide +kernel
theorem d_M_input_191 : decode y_M_input.2.1 191 = .ok (.getfield 139, 3) := by decide +kernel
theorem d_M_input_194 : decode y_M_input.2.1 194 = .ok (.iload 5, 2) := by decide +kernel
theorem d_M_input_196 : decode y_M_input.2.1 196 = .ok (.iadd, 1) := by decide +kernel
theorem d_M_input_197 : decode y_M_input.2.1 197 = .ok (.putfield 139, 3) := by decide +kernel
theorem d_M_input_200 : decode y_M_input.2.1 200 = .ok (.aload_n 0, 1) := by decide +kernel
theorem d_M_input_201 : decode y_M_input.2.1 201 = .ok (.invokevirtual 252, 3) := by decide +kernel
theorem d_M_input_204 : decode y_M_input.2.1 204 = .ok (.iload 5, 2) := by decide +kernel
theorem d_M_input_206 : decode y_M_input.2.1 206 = .ok (.ireturn, 1) := by decide +kernel
def y_M_slot : ab_Y := (⟨"WorldEngineModel", "slot", "(II)I"⟩, prog_14_method_17_code, 3, (some FieldType.int), [])
theorem d_M_slot_0 : decode y_M_slot.2.1 0 = .ok (.bipush 64, 2) := by decide +kernel
theorem d_M_slot_2 : decode y_M_slot.2.1 2 = .ok (.iload_n 1, 1) := by decide +kernel
theorem d_M_slot_3 : decode y_M_slot.2.1 3 = .ok (.imul, 1) := by decide +kernel
theorem d_M_slot_4 : decode y_M_slot.2.1 4 = .ok (.iload_n 2, 1) := by decide +kernel
theorem d_M_slot_5 : decode y_M_slot.2.1 5 = .ok (.bipush 63, 2) := by decide +kernel
theorem d_M_slot_7 : decode y_M_slot.2.1 7 = .ok (.iand, 1) := by decide +kernel
theorem d_M_slot_8 : decode y_M_slot.2.1 8 = .ok (.iadd, 1) := by decide +kernel
theorem d_M_slot_9 : decode y_M_slot.2.1 9 = .ok (.ireturn, 1) := by decide +kernel
def y_M_confirms : ab_Y := (⟨"WorldEngineModel", "confirms", "()V"⟩, prog_14_method_20_code, 4, none, [])
theorem d_M_confirms_0 : decode y_M_confirms.2.1 0 = .ok (.iconst 1, 1) := by decide +kernel
theorem d_M_confirms_1 : decode y_M_confirms.2.1 1 = .ok (.istore_n 1, 1) := by decide +kernel
theorem d_M_confirms_2 : decode y_M_confirms.2.1 2 = .ok (.iload_n 1, 1) := by decide +kernel
theorem d_M_confirms_3 : decode y_M_confirms.2.1 3 = .ok (.ifCond .eq 206, 3) := by decide +kernel
theorem d_M_confirms_6 : decode y_M_confirms.2.1 6 = .ok (.aload_n 0, 1) := by decide +kernel
theorem d_M_confirms_7 : decode y_M_confirms.2.1 7 = .ok (.getfield 33, 3) := by decide +kernel
theorem d_M_confirms_10 : decode y_M_confirms.2.1 10 = .ok (.getfield 145, 3) := by decide +kernel
theorem d_M_confirms_13 : decode y_M_confirms.2.1 13 = .ok (.aload_n 0, 1) := by decide +kernel
theorem d_M_confirms_14 : decode y_M_confirms.2.1 14 = .ok (.getfield 37, 3) := by decide +kernel
theorem d_M_confirms_17 : decode y_M_confirms.2.1 17 = .ok (.getfield 145, 3) := by decide +kernel
theorem d_M_confirms_20 : decode y_M_confirms.2.1 20 = .ok (.if_icmp .ge 189, 3) := by decide +kernel
theorem d_M_confirms_23 : decode y_M_confirms.2.1 23 = .ok (.aload_n 0, 1) := by decide +kernel
theorem d_M_confirms_24 : decode y_M_confirms.2.1 24 = .ok (.getfield 33, 3) := by decide +kernel
theorem d_M_confirms_27 : decode y_M_confirms.2.1 27 = .ok (.getfield 145, 3) := by decide +kernel
theorem d_M_confirms_30 : decode y_M_confirms.2.1 30 = .ok (.iconst 1, 1) := by decide +kernel
theorem d_M_confirms_31 : decode y_M_confirms.2.1 31 = .ok (.iadd, 1) := by decide +kernel
theorem d_M_confirms_32 : decode y_M_confirms.2.1 32 = .ok (.istore_n 2, 1) := by decide +kernel
theorem d_M_confirms_33 : decode y_M_confirms.2.1 33 = .ok (.iconst 0, 1) := by decide +kernel
theorem d_M_confirms_34 : decode y_M_confirms.2.1 34 = .ok (.istore_n 3, 1) := by decide +kernel
theorem d_M_confirms_35 : decode y_M_confirms.2.1 35 = .ok (.iload_n 3, 1) := by decide +kernel
theorem d_M_confirms_36 : decode y_M_confirms.2.1 36 = .ok (.iconst 4, 1) := by decide +kernel
theorem d_M_confirms_37 : decode y_M_confirms.2.1 37 = .ok (.if_icmp .ge 49, 3) := by decide +kernel
theorem d_M_confirms_40 : decode y_M_confirms.2.1 40 = .ok (.iload_n 1, 1) := by decide +kernel
theorem d_M_confirms_41 : decode y_M_confirms.2.1 41 = .ok (.ifCond .eq 37, 3) := by decide +kernel
theorem d_M_confirms_44 : decode y_M_confirms.2.1 44 = .ok (.aload_n 0, 1) := by decide +kernel
theorem d_M_confirms_45 : decode y_M_confirms.2.1 45 = .ok (.getfield 61, 3) := by decide +kernel
theorem d_M_confirms_48 : decode y_M_confirms.2.1 48 = .ok (.iload_n 2, 1) := by decide +kernel
theorem d_M_confirms_49 : decode y_M_confirms.2.1 49 = .ok (.bipush 63, 2) := by decide +kernel
theorem d_M_confirms_51 : decode y_M_confirms.2.1 51 = .ok (.iand, 1) := by decide +kernel
theorem d_M_confirms_52 : decode y_M_confirms.2.1 52 = .ok (.iaload, 1) := by decide +kernel
theorem d_M_confirms_53 : decode y_M_confirms.2.1 53 = .ok (.iload_n 3, 1) := by decide +kernel
theorem d_M_confirms_54 : decode y_M_confirms.2.1 54 = .ok (.ishr, 1) := by decide +kernel
theorem d_M_confirms_55 : decode y_M_confirms.2.1 55 = .ok (.iconst 1, 1) := by decide +kernel
theorem d_M_confirms_56 : decode y_M_confirms.2.1 56 = .ok (.iand, 1) := by decide +kernel
theorem d_M_confirms_57 : decode y_M_confirms.2.1 57 = .ok (.ifCond .eq 17, 3) := by decide +kernel
theorem d_M_confirms_60 : decode y_M_confirms.2.1 60 = .ok (.aload_n 0, 1) := by decide +kernel
theorem d_M_confirms_61 : decode y_M_confirms.2.1 61 = .ok (.getfield 57, 3) := by decide +kernel
theorem d_M_confirms_64 : decode y_M_confirms.2.1 64 = .ok (.aload_n 0, 1) := by decide +kernel
theorem d_M_confirms_65 : decode y_M_confirms.2.1 65 = .ok (.iload_n 3, 1) := by decide +kernel
theorem d_M_confirms_66 : decode y_M_confirms.2.1 66 = .ok (.iload_n 2, 1) := by decide +kernel
theorem d_M_confirms_67 : decode y_M_confirms.2.1 67 = .ok (.invokevirtual 227, 3) := by decide +kernel
theorem d_M_confirms_70 : decode y_M_confirms.2.1 70 = .ok (.baload, 1) := by decide +kernel
theorem d_M_confirms_71 : decode y_M_confirms.2.1 71 = .ok (.ifCond .eq 7, 3) := by decide +kernel
theorem d_M_confirms_74 : decode y_M_confirms.2.1 74 = .ok (.iconst 1, 1) := by decide +kernel
theorem d_M_confirms_75 : decode y_M_confirms.2.1 75 = .ok (.goto 4, 3) := by decide +kernel
theorem d_M_confirms_78 : decode y_M_confirms.2.1 78 = .ok (.iconst 0, 1) := by decide +kernel
theorem d_M_confirms_79 : decode y_M_confirms.2.1 79 = .ok (.istore_n 1, 1) := by decide +kernel
theorem d_M_confirms_80 : decode y_M_confirms.2.1 80 = .ok (.iinc 3 1, 3) := by decide +kernel
theorem d_M_confirms_83 : decode y_M_confirms.2.1 83 = .ok (.goto (-48), 3) := by decide +kernel
theorem d_M_confirms_86 : decode y_M_confirms.2.1 86 = .ok (.iload_n 1, 1) := by decide +kernel
theorem d_M_confirms_87 : decode y_M_confirms.2.1 87 = .ok (.ifCond .ne 4, 3) := by decide +kernel
theorem d_M_confirms_90 : decode y_M_confirms.2.1 90 = .ok (.return_, 1) := by decide +kernel
theorem d_M_confirms_91 : decode y_M_confirms.2.1 91 = .ok (.aload_n 0, 1) := by decide +kernel
theorem d_M_confirms_92 : decode y_M_confirms.2.1 92 = .ok (.aload_n 0, 1) := by decide +kernel
theorem d_M_confirms_93 : decode y_M_confirms.2.1 93 = .ok (.getfield 33, 3) := by decide +kernel
theorem d_M_confirms_96 : decode y_M_confirms.2.1 96 = .ok (.invokevirtual 238, 3) := by decide +kernel
theorem d_M_confirms_99 : decode y_M_confirms.2.1 99 = .ok (.iconst 0, 1) := by decide +kernel
theorem d_M_confirms_100 : decode y_M_confirms.2.1 100 = .ok (.istore_n 3, 1) := by decide +kernel
theorem d_M_confirms_101 : decode y_M_confirms.2.1 101 = .ok (.iload_n 3, 1) := by decide +kernel
theorem d_M_confirms_102 : decode y_M_confirms.2.1 102 = .ok (.aload_n 0, 1) := by decide +kernel
theorem d_M_confirms_103 : decode y_M_confirms.2.1 103 = .ok (.getfield 33, 3) := by decide +kernel
theorem d_M_confirms_106 : decode y_M_confirms.2.1 106 = .ok (.getfield 241, 3) := by decide +kernel
theorem d_M_confirms_109 : decode y_M_confirms.2.1 109 = .ok (.if_icmp .ge 41, 3) := by decide +kernel
theorem d_M_confirms_112 : decode y_M_confirms.2.1 112 = .ok (.aload_n 0, 1) := by decide +kernel
theorem d_M_confirms_113 : decode y_M_confirms.2.1 113 = .ok (.getfield 70, 3) := by decide +kernel
theorem d_M_confirms_116 : decode y_M_confirms.2.1 116 = .ok (.aload_n 0, 1) := by decide +kernel
theorem d_M_confirms_117 : decode y_M_confirms.2.1 117 = .ok (.getfield 136, 3) := by decide +kernel
theorem d_M_confirms_120 : decode y_M_confirms.2.1 120 = .ok (.sipush 255, 3) := by decide +kernel
theorem d_M_confirms_123 : decode y_M_confirms.2.1 123 = .ok (.iand, 1) := by decide +kernel
theorem d_M_confirms_124 : decode y_M_confirms.2.1 124 = .ok (.aload_n 0, 1) := by decide +kernel
theorem d_M_confirms_125 : decode y_M_confirms.2.1 125 = .ok (.getfield 33, 3) := by decide +kernel
theorem d_M_confirms_128 : decode y_M_confirms.2.1 128 = .ok (.getfield 244, 3) := by decide +kernel
theorem d_M_confirms_131 : decode y_M_confirms.2.1 131 = .ok (.iload_n 3, 1) := by decide +kernel
theorem d_M_confirms_132 : decode y_M_confirms.2.1 132 = .ok (.iaload, 1) := by decide +kernel
theorem d_M_confirms_133 : decode y_M_confirms.2.1 133 = .ok (.iastore, 1) := by decide +kernel
theorem d_M_confirms_134 : decode y_M_confirms.2.1 134 = .ok (.aload_n 0, 1) := by decide +kernel
theorem d_M_confirms_135 : decode y_M_confirms.2.1 135 = .ok (.dup, 1) := by decide +kernel
theorem d_M_confirms_136 : decode y_M_confirms.2.1 136 = .ok (.getfield 136, 3) := by decide +kernel
theorem d_M_confirms_139 : decode y_M_confirms.2.1 139 = .ok (.iconst 1, 1) := by decide +kernel
theorem d_M_confirms_140 : decode y_M_confirms.2.1 140 = .ok (.iadd, 1) := by decide +kernel
theorem d_M_confirms_141 : decode y_M_confirms.2.1 141 = .ok (.putfield 136, 3) := by decide +kernel
theorem d_M_confirms_144 : decode y_M_confirms.2.1 144 = .ok (.iinc 3 1, 3) := by decide +kernel
theorem d_M_confirms_147 : decode y_M_confirms.2.1 147 = .ok (.goto (-46), 3) := by decide +kernel
theorem d_M_confirms_150 : decode y_M_confirms.2.1 150 = .ok (.iconst 0, 1) := by decide +kernel
theorem d_M_confirms_151 : decode y_M_confirms.2.1 151 = .ok (.istore_n 3, 1) := by decide +kernel
theorem d_M_confirms_152 : decode y_M_confirms.2.1 152 = .ok (.iload_n 3, 1) := by decide +kernel
theorem d_M_confirms_153 : decode y_M_confirms.2.1 153 = .ok (.iconst 4, 1) := by decide +kernel
theorem d_M_confirms_154 : decode y_M_confirms.2.1 154 = .ok (.if_icmp .ge 52, 3) := by decide +kernel
theorem d_M_confirms_157 : decode y_M_confirms.2.1 157 = .ok (.aload_n 0, 1) := by decide +kernel
theorem d_M_confirms_158 : decode y_M_confirms.2.1 158 = .ok (.getfield 57, 3) := by decide +kernel
theorem d_M_confirms_161 : decode y_M_confirms.2.1 161 = .ok (.aload_n 0, 1) := by decide +kernel
theorem d_M_confirms_162 : decode y_M_confirms.2.1 162 = .ok (.iload_n 3, 1) := by decide +kernel
theorem d_M_confirms_163 : decode y_M_confirms.2.1 163 = .ok (.iload_n 2, 1) := by decide +kernel
theorem d_M_confirms_164 : decode y_M_confirms.2.1 164 = .ok (.invokevirtual 227, 3) := by decide +kernel
theorem d_M_confirms_167 : decode y_M_confirms.2.1 167 = .ok (.baload, 1) := by decide +kernel
theorem d_M_confirms_168 : decode y_M_confirms.2.1 168 = .ok (.ifCond .eq 20, 3) := by decide +kernel
theorem d_M_confirms_171 : decode y_M_confirms.2.1 171 = .ok (.aload_n 0, 1) := by decide +kernel
theorem d_M_confirms_172 : decode y_M_confirms.2.1 172 = .ok (.getfield 64, 3) := by decide +kernel
theorem d_M_confirms_175 : decode y_M_confirms.2.1 175 = .ok (.iload_n 3, 1) := by decide +kernel
theorem d_M_confirms_176 : decode y_M_confirms.2.1 176 = .ok (.aload_n 0, 1) := by decide +kernel
theorem d_M_confirms_177 : decode y_M_confirms.2.1 177 = .ok (.getfield 53, 3) := by decide +kernel
theorem d_M_confirms_180 : decode y_M_confirms.2.1 180 = .ok (.aload_n 0, 1) := by decide +kernel
theorem d_M_confirms_181 : decode y_M_confirms.2.1 181 = .ok (.iload_n 3, 1) := by decide +kernel
theorem d_M_confirms_182 : decode y_M_confirms.2.1 182 = .ok (.iload_n 2, 1) := by decide +kernel
theorem d_M_confirms_183 : decode y_M_confirms.2.1 183 = .ok (.invokevirtual 227, 3) := by decide +kernel
theorem d_M_confirms_186 : decode y_M_confirms.2.1 186 = .ok (.iaload, 1) := by decide +kernel
theorem d_M_confirms_187 : decode y_M_confirms.2.1 187 = .ok (.iastore, 1) := by decide +kernel
theorem d_M_confirms_188 : decode y_M_confirms.2.1 188 = .ok (.aload_n 0, 1) := by decide +kernel
theorem d_M_confirms_189 : decode y_M_confirms.2.1 189 = .ok (.getfield 57, 3) := by decide +kernel
theorem d_M_confirms_192 : decode y_M_confirms.2.1 192 = .ok (.aload_n 0, 1) := by decide +kernel
theorem d_M_confirms_193 : decode y_M_confirms.2.1 193 = .ok (.iload_n 3, 1) := by decide +kernel
theorem d_M_confirms_194 : decode y_M_confirms.2.1 194 = .ok (.iload_n 2, 1) := by decide +kernel
theorem d_M_confirms_195 : decode y_M_confirms.2.1 195 = .ok (.invokevirtual 227, 3) := by decide +kernel
theorem d_M_confirms_198 : decode y_M_confirms.2.1 198 = .ok (.iconst 0, 1) := by decide +kernel
theorem d_M_confirms_199 : decode y_M_confirms.2.1 199 = .ok (.bastore, 1) := by decide +kernel
theorem d_M_confirms_200 : decode y_M_confirms.2.1 200 = .ok (.iinc 3 1, 3) := by decide +kernel
theorem d_M_confirms_203 : decode y_M_confirms.2.1 203 = .ok (.goto (-51), 3) := by decide +kernel
theorem d_M_confirms_206 : decode y_M_confirms.2.1 206 = .ok (.goto (-204), 3) := by decide +kernel
theorem d_M_confirms_209 : decode y_M_confirms.2.1 209 = .ok (.return_, 1) := by decide +kernel
def y_M_seat : ab_Y := (⟨"WorldEngineModel", "seat", "(IZ)Z"⟩, prog_14_method_25_code, 4, (some FieldType.boolean), [])
theorem d_M_seat_0 : decode y_M_seat.2.1 0 = .ok (.aload_n 0, 1) := by decide +kernel
theorem d_M_seat_1 : decode y_M_seat.2.1 1 = .ok (.iconst 0, 1) := by decide +kernel
theorem d_M_seat_2 : decode y_M_seat.2.1 2 = .ok (.putfield 83, 3) := by decide +kernel
theorem d_M_seat_5 : decode y_M_seat.2.1 5 = .ok (.iload_n 1, 1) := by decide +kernel
theorem d_M_seat_6 : decode y_M_seat.2.1 6 = .ok (.i2l, 1) := by decide +kernel
theorem d_M_seat_7 : decode y_M_seat.2.1 7 = .ok (.lconst 0, 1) := by decide +kernel
theorem d_M_seat_8 : decode y_M_seat.2.1 8 = .ok (.ldc2_w 255, 3) := by decide +kernel
theorem d_M_seat_11 : decode y_M_seat.2.1 11 = .ok (.invokestatic 99, 3) := by decide +kernel
theorem d_M_seat_14 : decode y_M_seat.2.1 14 = .ok (.ifCond .eq 24, 3) := by decide +kernel
theorem d_M_seat_17 : decode y_M_seat.2.1 17 = .ok (.aload_n 0, 1) := by decide +kernel
theorem d_M_seat_18 : decode y_M_seat.2.1 18 = .ok (.getfield 50, 3) := by decide +kernel
theorem d_M_seat_21 : decode y_M_seat.2.1 21 = .ok (.iload_n 1, 1) := by decide +kernel
theorem d_M_seat_22 : decode y_M_seat.2.1 22 = .ok (.ishr, 1) := by decide +kernel
theorem d_M_seat_23 : decode y_M_seat.2.1 23 = .ok (.iconst 1, 1) := by decide +kernel
theorem d_M_seat_24 : decode y_M_seat.2.1 24 = .ok (.iand, 1) := by decide +kernel
theorem d_M_seat_25 : decode y_M_seat.2.1 25 = .ok (.iconst 1, 1) := by decide +kernel
theorem d_M_seat_26 : decode y_M_seat.2.1 26 = .ok (.if_icmp .ne 7, 3) := by decide +kernel
theorem d_M_seat_29 : decode y_M_seat.2.1 29 = .ok (.iconst 1, 1) := by decide +kernel
theorem d_M_seat_30 : decode y_M_seat.2.1 30 = .ok (.goto 4, 3) := by decide +kernel
theorem d_M_seat_33 : decode y_M_seat.2.1 33 = .ok (.iconst 0, 1) := by decide +kernel
theorem d_M_seat_34 : decode y_M_seat.2.1 34 = .ok (.iload_n 2, 1) := by decide +kernel
theorem d_M_seat_35 : decode y_M_seat.2.1 35 = .ok (.if_icmp .ne 5, 3) := by decide +kernel
theorem d_M_seat_38 : decode y_M_seat.2.1 38 = .ok (.iconst 0, 1) := by decide +kernel
theorem d_M_seat_39 : decode y_M_seat.2.1 39 = .ok (.ireturn, 1) := by decide +kernel
theorem d_M_seat_40 : decode y_M_seat.2.1 40 = .ok (.aload_n 0, 1) := by decide +kernel
theorem d_M_seat_41 : decode y_M_seat.2.1 41 = .ok (.dup, 1) := by decide +kernel
theorem d_M_seat_42 : decode y_M_seat.2.1 42 = .ok (.getfield 50, 3) := by decide +kernel
theorem d_M_seat_45 : decode y_M_seat.2.1 45 = .ok (.iconst 1, 1) := by decide +kernel
theorem d_M_seat_46 : decode y_M_seat.2.1 46 = .ok (.iload_n 1, 1) := by decide +kernel
theorem d_M_seat_47 : decode y_M_seat.2.1 47 = .ok (.ishl, 1) := by decide +kernel
theorem d_M_seat_48 : decode y_M_seat.2.1 48 = .ok (.ixor, 1) := by decide +kernel
theorem d_M_seat_49 : decode y_M_seat.2.1 49 = .ok (.putfield 50, 3) := by decide +kernel
theorem d_M_seat_52 : decode y_M_seat.2.1 52 = .ok (.aload_n 0, 1) := by decide +kernel
theorem d_M_seat_53 : decode y_M_seat.2.1 53 = .ok (.getfield 37, 3) := by decide +kernel
theorem d_M_seat_56 : decode y_M_seat.2.1 56 = .ok (.getfield 145, 3) := by decide +kernel
theorem d_M_seat_59 : decode y_M_seat.2.1 59 = .ok (.iconst 1, 1) := by decide +kernel
theorem d_M_seat_60 : decode y_M_seat.2.1 60 = .ok (.iadd, 1) := by decide +kernel
theorem d_M_seat_61 : decode y_M_seat.2.1 61 = .ok (.istore_n 3, 1) := by decide +kernel
theorem d_M_seat_62 : decode y_M_seat.2.1 62 = .ok (.iload_n 2, 1) := by decide +kernel
theorem d_M_seat_63 : decode y_M_seat.2.1 63 = .ok (.ifCond .ne 35, 3) := by decide +kernel
theorem d_M_seat_66 : decode y_M_seat.2.1 66 = .ok (.iload_n 3, 1) := by decide +kernel
theorem d_M_seat_67 : decode y_M_seat.2.1 67 = .ok (.aload_n 0, 1) := by decide +kernel
theorem d_M_seat_68 : decode y_M_seat.2.1 68 = .ok (.getfield 37, 3) := by decide +kernel
theorem d_M_seat_71 : decode y_M_seat.2.1 71 = .ok (.getfield 145, 3) := by decide +kernel
theorem d_M_seat_74 : decode y_M_seat.2.1 74 = .ok (.bipush 16, 2) := by decide +kernel
theorem d_M_seat_76 : decode y_M_seat.2.1 76 = .ok (.iadd, 1) := by decide +kernel
theorem d_M_seat_77 : decode y_M_seat.2.1 77 = .ok (.if_icmp .gt 21, 3) := by decide +kernel
theorem d_M_seat_80 : decode y_M_seat.2.1 80 = .ok (.aload_n 0, 1) := by decide +kernel
theorem d_M_seat_81 : decode y_M_seat.2.1 81 = .ok (.getfield 57, 3) := by decide +kernel
theorem d_M_seat_84 : decode y_M_seat.2.1 84 = .ok (.aload_n 0, 1) := by decide +kernel
theorem d_M_seat_85 : decode y_M_seat.2.1 85 = .ok (.iload_n 1, 1) := by decide +kernel
theorem d_M_seat_86 : decode y_M_seat.2.1 86 = .ok (.iload_n 3, 1) := by decide +kernel
theorem d_M_seat_87 : decode y_M_seat.2.1 87 = .ok (.invokevirtual 227, 3) := by decide +kernel
theorem d_M_seat_90 : decode y_M_seat.2.1 90 = .ok (.iconst 0, 1) := by decide +kernel
theorem d_M_seat_91 : decode y_M_seat.2.1 91 = .ok (.bastore, 1) := by decide +kernel
theorem d_M_seat_92 : decode y_M_seat.2.1 92 = .ok (.iinc 3 1, 3) := by decide +kernel
theorem d_M_seat_95 : decode y_M_seat.2.1 95 = .ok (.goto (-33), 3) := by decide +kernel
theorem d_M_seat_98 : decode y_M_seat.2.1 98 = .ok (.iconst 1, 1) := by decide +kernel
theorem d_M_seat_99 : decode y_M_seat.2.1 99 = .ok (.ireturn, 1) := by decide +kernel
def y_M_make : ab_Y := (⟨"WorldEngineModel", "make", "(I)I"⟩, prog_14_method_27_code, 3, (some FieldType.int), [])
theorem d_M_make_0 : decode y_M_make.2.1 0 = .ok (.aload_n 0, 1) := by decide +kernel
theorem d_M_make_1 : decode y_M_make.2.1 1 = .ok (.iconst 0, 1) := by decide +kernel
theorem d_M_make_2 : decode y_M_make.2.1 2 = .ok (.putfield 83, 3) := by decide +kernel
theorem d_M_make_5 : decode y_M_make.2.1 5 = .ok (.aload_n 0, 1) := by decide +kernel
theorem d_M_make_6 : decode y_M_make.2.1 6 = .ok (.invokevirtual 148, 3) := by decide +kernel
theorem d_M_make_9 : decode y_M_make.2.1 9 = .ok (.ifCond .ne 6, 3) := by decide +kernel
theorem d_M_make_12 : decode y_M_make.2.1 12 = .ok (.bipush (-10), 2) := by decide +kernel
theorem d_M_make_14 : decode y_M_make.2.1 14 = .ok (.ireturn, 1) := by decide +kernel
theorem d_M_make_15 : decode y_M_make.2.1 15 = .ok (.iload_n 1, 1) := by decide +kernel
theorem d_M_make_16 : decode y_M_make.2.1 16 = .ok (.i2l, 1) := by decide +kernel
theorem d_M_make_17 : decode y_M_make.2.1 17 = .ok (.lconst 0, 1) := by decide +kernel
theorem d_M_make_18 : decode y_M_make.2.1 18 = .ok (.aload_n 0, 1) := by decide +kernel
theorem d_M_make_19 : decode y_M_make.2.1 19 = .ok (.getfield 16, 3) := by decide +kernel
theorem d_M_make_22 : decode y_M_make.2.1 22 = .ok (.getfield 262, 3) := by decide +kernel
theorem d_M_make_25 : decode y_M_make.2.1 25 = .ok (.iconst 1, 1) := by decide +kernel
theorem d_M_make_26 : decode y_M_make.2.1 26 = .ok (.isub, 1) := by decide +kernel
theorem d_M_make_27 : decode y_M_make.2.1 27 = .ok (.i2l, 1) := by decide +kernel
theorem d_M_make_28 : decode y_M_make.2.1 28 = .ok (.invokestatic 99, 3) := by decide +kernel
theorem d_M_make_31 : decode y_M_make.2.1 31 = .ok (.ifCond .ne 5, 3) := by decide +kernel
theorem d_M_make_34 : decode y_M_make.2.1 34 = .ok (.iconst (-1), 1) := by decide +kernel
theorem d_M_make_35 : decode y_M_make.2.1 35 = .ok (.ireturn, 1) := by decide +kernel
theorem d_M_make_36 : decode y_M_make.2.1 36 = .ok (.aload_n 0, 1) := by decide +kernel
theorem d_M_make_37 : decode y_M_make.2.1 37 = .ok (.getfield 37, 3) := by decide +kernel
theorem d_M_make_40 : decode y_M_make.2.1 40 = .ok (.aload_n 0, 1) := by decide +kernel
theorem d_M_make_41 : decode y_M_make.2.1 41 = .ok (.getfield 16, 3) := by decide +kernel
theorem d_M_make_44 : decode y_M_make.2.1 44 = .ok (.iload_n 1, 1) := by decide +kernel
theorem d_M_make_45 : decode y_M_make.2.1 45 = .ok (.invokevirtual 265, 3) := by decide +kernel
theorem d_M_make_48 : decode y_M_make.2.1 48 = .ok (.istore_n 2, 1) := by decide +kernel
theorem d_M_make_49 : decode y_M_make.2.1 49 = .ok (.aload_n 0, 1) := by decide +kernel
theorem d_M_make_50 : decode y_M_make.2.1 50 = .ok (.getfield 33, 3) := by decide +kernel
theorem d_M_make_53 : decode y_M_make.2.1 53 = .ok (.aload_n 0, 1) := by decide +kernel
theorem d_M_make_54 : decode y_M_make.2.1 54 = .ok (.getfield 37, 3) := by decide +kernel
theorem d_M_make_57 : decode y_M_make.2.1 57 = .ok (.invokevirtual 129, 3) := by decide +kernel
theorem d_M_make_60 : decode y_M_make.2.1 60 = .ok (.iload_n 2, 1) := by decide +kernel
theorem d_M_make_61 : decode y_M_make.2.1 61 = .ok (.ifCond .ge 8, 3) := by decide +kernel
theorem d_M_make_64 : decode y_M_make.2.1 64 = .ok (.bipush (-2), 2) := by decide +kernel
theorem d_M_make_66 : decode y_M_make.2.1 66 = .ok (.goto 11, 3) := by decide +kernel
theorem d_M_make_69 : decode y_M_make.2.1 69 = .ok (.aload_n 0, 1) := by decide +kernel
theorem d_M_make_70 : decode y_M_make.2.1 70 = .ok (.getfield 37, 3) := by decide +kernel
theorem d_M_make_73 : decode y_M_make.2.1 73 = .ok (.iload_n 2, 1) := by decide +kernel
theorem d_M_make_74 : decode y_M_make.2.1 74 = .ok (.invokevirtual 269, 3) := by decide +kernel
theorem d_M_make_77 : decode y_M_make.2.1 77 = .ok (.ireturn, 1) := by decide +kernel
def y_M_change : ab_Y := (⟨"WorldEngineModel", "change", "(III)I"⟩, prog_14_method_28_code, 5, (some FieldType.int), [])
theorem d_M_change_0 : decode y_M_change.2.1 0 = .ok (.aload_n 0, 1) := by decide +kernel
theorem d_M_change_1 : decode y_M_change.2.1 1 = .ok (.iconst 0, 1) := by decide +kernel
theorem d_M_change_2 : decode y_M_change.2.1 2 = .ok (.putfield 83, 3) := by decide +kernel
theorem d_M_change_5 : decode y_M_change.2.1 5 = .ok (.aload_n 0, 1) := by decide +kernel
theorem d_M_change_6 : decode y_M_change.2.1 6 = .ok (.invokevirtual 148, 3) := by decide +kernel
theorem d_M_change_9 : decode y_M_change.2.1 9 = .ok (.ifCond .ne 6, 3) := by decide +kernel
theorem d_M_change_12 : decode y_M_change.2.1 12 = .ok (.bipush (-10), 2) := by decide +kernel
theorem d_M_change_14 : decode y_M_change.2.1 14 = .ok (.ireturn, 1) := by decide +kernel
theorem d_M_change_15 : decode y_M_change.2.1 15 = .ok (.iload_n 1, 1) := by decide +kernel
theorem d_M_change_16 : decode y_M_change.2.1 16 = .ok (.i2l, 1) := by decide +kernel
theorem d_M_change_17 : decode y_M_change.2.1 17 = .ok (.lconst 0, 1) := by decide +kernel
theorem d_M_change_18 : decode y_M_change.2.1 18 = .ok (.ldc2_w 272, 3) := by decide +kernel
theorem d_M_change_21 : decode y_M_change.2.1 21 = .ok (.invokestatic 99, 3) := by decide +kernel
theorem d_M_change_24 : decode y_M_change.2.1 24 = .ok (.ifCond .eq 26, 3) := by decide +kernel
theorem d_M_change_27 : decode y_M_change.2.1 27 = .ok (.aload_n 0, 1) := by decide +kernel
theorem d_M_change_28 : decode y_M_change.2.1 28 = .ok (.getfield 37, 3) := by decide +kernel
theorem d_M_change_31 : decode y_M_change.2.1 31 = .ok (.iload_n 2, 1) := by decide +kernel
theorem d_M_change_32 : decode y_M_change.2.1 32 = .ok (.invokevirtual 274, 3) := by decide +kernel
theorem d_M_change_35 : decode y_M_change.2.1 35 = .ok (.ifCond .eq 15, 3) := by decide +kernel
theorem d_M_change_38 : decode y_M_change.2.1 38 = .ok (.iload_n 1, 1) := by decide +kernel
theorem d_M_change_39 : decode y_M_change.2.1 39 = .ok (.ifCond .le 13, 3) := by decide +kernel
theorem d_M_change_42 : decode y_M_change.2.1 42 = .ok (.aload_n 0, 1) := by decide +kernel
theorem d_M_change_43 : decode y_M_change.2.1 43 = .ok (.iload_n 3, 1) := by decide +kernel
theorem d_M_change_44 : decode y_M_change.2.1 44 = .ok (.invokevirtual 278, 3) := by decide +kernel
theorem d_M_change_47 : decode y_M_change.2.1 47 = .ok (.ifCond .ne 5, 3) := by decide +kernel
theorem d_M_change_50 : decode y_M_change.2.1 50 = .ok (.iconst (-1), 1) := by decide +kernel
theorem d_M_change_51 : decode y_M_change.2.1 51 = .ok (.ireturn, 1) := by decide +kernel
theorem d_M_change_52 : decode y_M_change.2.1 52 = .ok (.iload_n 1, 1) := by decide +kernel
theorem d_M_change_53 : decode y_M_change.2.1 53 = .ok (.ifCond .ne 14, 3) := by decide +kernel
theorem d_M_change_56 : decode y_M_change.2.1 56 = .ok (.aload_n 0, 1) := by decide +kernel
theorem d_M_change_57 : decode y_M_change.2.1 57 = .ok (.getfield 37, 3) := by decide +kernel
theorem d_M_change_60 : decode y_M_change.2.1 60 = .ok (.iload_n 2, 1) := by decide +kernel
theorem d_M_change_61 : decode y_M_change.2.1 61 = .ok (.invokevirtual 281, 3) := by decide +kernel
theorem d_M_change_64 : decode y_M_change.2.1 64 = .ok (.goto 33, 3) := by decide +kernel
theorem d_M_change_67 : decode y_M_change.2.1 67 = .ok (.iload_n 1, 1) := by decide +kernel
theorem d_M_change_68 : decode y_M_change.2.1 68 = .ok (.iconst 1, 1) := by decide +kernel
theorem d_M_change_69 : decode y_M_change.2.1 69 = .ok (.if_icmp .ne 19, 3) := by decide +kernel
theorem d_M_change_72 : decode y_M_change.2.1 72 = .ok (.aload_n 0, 1) := by decide +kernel
theorem d_M_change_73 : decode y_M_change.2.1 73 = .ok (.getfield 37, 3) := by decide +kernel
theorem d_M_change_76 : decode y_M_change.2.1 76 = .ok (.aload_n 0, 1) := by decide +kernel
theorem d_M_change_77 : decode y_M_change.2.1 77 = .ok (.getfield 16, 3) := by decide +kernel
theorem d_M_change_80 : decode y_M_change.2.1 80 = .ok (.iload_n 2, 1) := by decide +kernel
theorem d_M_change_81 : decode y_M_change.2.1 81 = .ok (.iload_n 3, 1) := by decide +kernel
theorem d_M_change_82 : decode y_M_change.2.1 82 = .ok (.invokevirtual 284, 3) := by decide +kernel
theorem d_M_change_85 : decode y_M_change.2.1 85 = .ok (.goto 12, 3) := by decide +kernel
theorem d_M_change_88 : decode y_M_change.2.1 88 = .ok (.aload_n 0, 1) := by decide +kernel
theorem d_M_change_89 : decode y_M_change.2.1 89 = .ok (.getfield 37, 3) := by decide +kernel
theorem d_M_change_92 : decode y_M_change.2.1 92 = .ok (.iload_n 2, 1) := by decide +kernel
theorem d_M_change_93 : decode y_M_change.2.1 93 = .ok (.iload_n 3, 1) := by decide +kernel
theorem d_M_change_94 : decode y_M_change.2.1 94 = .ok (.invokevirtual 288, 3) := by decide +kernel
theorem d_M_change_97 : decode y_M_change.2.1 97 = .ok (.istore 4, 2) := by decide +kernel
theorem d_M_change_99 : decode y_M_change.2.1 99 = .ok (.aload_n 0, 1) := by decide +kernel
theorem d_M_change_100 : decode y_M_change.2.1 100 = .ok (.getfield 33, 3) := by decide +kernel
theorem d_M_change_103 : decode y_M_change.2.1 103 = .ok (.aload_n 0, 1) := by decide +kernel
theorem d_M_change_104 : decode y_M_change.2.1 104 = .ok (.getfield 37, 3) := by decide +kernel
theorem d_M_change_107 : decode y_M_change.2.1 107 = .ok (.invokevirtual 129, 3) := by decide +kernel
theorem d_M_change_110 : decode y_M_change.2.1 110 = .ok (.iload 4, 2) := by decide +kernel
theorem d_M_change_112 : decode y_M_change.2.1 112 = .ok (.ifCond .eq 7, 3) := by decide +kernel
theorem d_M_change_115 : decode y_M_change.2.1 115 = .ok (.iconst 0, 1) := by decide +kernel
theorem d_M_change_116 : decode y_M_change.2.1 116 = .ok (.goto 5, 3) := by decide +kernel
theorem d_M_change_119 : decode y_M_change.2.1 119 = .ok (.bipush (-2), 2) := by decide +kernel
theorem d_M_change_121 : decode y_M_change.2.1 121 = .ok (.ireturn, 1) := by decide +kernel
def y_M_isComponent : ab_Y := (⟨"WorldEngineModel", "isComponent", "(I)Z"⟩, prog_14_method_26_code, 2, (some FieldType.boolean), [])
theorem d_M_isComponent_0 : decode y_M_isComponent.2.1 0 = .ok (.iload_n 1, 1) := by decide +kernel
theorem d_M_isComponent_1 : decode y_M_isComponent.2.1 1 = .ok (.i2l, 1) := by decide +kernel
theorem d_M_isComponent_2 : decode y_M_isComponent.2.1 2 = .ok (.lconst 0, 1) := by decide +kernel
theorem d_M_isComponent_3 : decode y_M_isComponent.2.1 3 = .ok (.aload_n 0, 1) := by decide +kernel
theorem d_M_isComponent_4 : decode y_M_isComponent.2.1 4 = .ok (.getfield 16, 3) := by decide +kernel
theorem d_M_isComponent_7 : decode y_M_isComponent.2.1 7 = .ok (.getfield 161, 3) := by decide +kernel
theorem d_M_isComponent_10 : decode y_M_isComponent.2.1 10 = .ok (.iconst 1, 1) := by decide +kernel
theorem d_M_isComponent_11 : decode y_M_isComponent.2.1 11 = .ok (.isub, 1) := by decide +kernel
theorem d_M_isComponent_12 : decode y_M_isComponent.2.1 12 = .ok (.i2l, 1) := by decide +kernel
theorem d_M_isComponent_13 : decode y_M_isComponent.2.1 13 = .ok (.invokestatic 99, 3) := by decide +kernel
theorem d_M_isComponent_16 : decode y_M_isComponent.2.1 16 = .ok (.ireturn, 1) := by decide +kernel
def y_M_set : ab_Y := (⟨"WorldEngineModel", "set", "(IIII)I"⟩, prog_14_method_30_code, 7, (some FieldType.int), [])
theorem d_M_set_0 : decode y_M_set.2.1 0 = .ok (.aload_n 0, 1) := by decide +kernel
theorem d_M_set_1 : decode y_M_set.2.1 1 = .ok (.iconst 0, 1) := by decide +kernel
theorem d_M_set_2 : decode y_M_set.2.1 2 = .ok (.putfield 83, 3) := by decide +kernel
theorem d_M_set_5 : decode y_M_set.2.1 5 = .ok (.aload_n 0, 1) := by decide +kernel
theorem d_M_set_6 : decode y_M_set.2.1 6 = .ok (.invokevirtual 148, 3) := by decide +kernel
theorem d_M_set_9 : decode y_M_set.2.1 9 = .ok (.ifCond .ne 6, 3) := by decide +kernel
theorem d_M_set_12 : decode y_M_set.2.1 12 = .ok (.bipush (-10), 2) := by decide +kernel
theorem d_M_set_14 : decode y_M_set.2.1 14 = .ok (.ireturn, 1) := by decide +kernel
theorem d_M_set_15 : decode y_M_set.2.1 15 = .ok (.aload_n 0, 1) := by decide +kernel
theorem d_M_set_16 : decode y_M_set.2.1 16 = .ok (.iload_n 1, 1) := by decide +kernel
theorem d_M_set_17 : decode y_M_set.2.1 17 = .ok (.iload_n 2, 1) := by decide +kernel
theorem d_M_set_18 : decode y_M_set.2.1 18 = .ok (.iload_n 3, 1) := by decide +kernel
theorem d_M_set_19 : decode y_M_set.2.1 19 = .ok (.invokevirtual 293, 3) := by decide +kernel
theorem d_M_set_22 : decode y_M_set.2.1 22 = .ok (.ifCond .ne 5, 3) := by decide +kernel
theorem d_M_set_25 : decode y_M_set.2.1 25 = .ok (.iconst (-1), 1) := by decide +kernel
theorem d_M_set_26 : decode y_M_set.2.1 26 = .ok (.ireturn, 1) := by decide +kernel
theorem d_M_set_27 : decode y_M_set.2.1 27 = .ok (.aload_n 0, 1) := by decide +kernel
theorem d_M_set_28 : decode y_M_set.2.1 28 = .ok (.getfield 16, 3) := by decide +kernel
theorem d_M_set_31 : decode y_M_set.2.1 31 = .ok (.getfield 171, 3) := by decide +kernel
theorem d_M_set_34 : decode y_M_set.2.1 34 = .ok (.iload_n 2, 1) := by decide +kernel
theorem d_M_set_35 : decode y_M_set.2.1 35 = .ok (.iaload, 1) := by decide +kernel
theorem d_M_set_36 : decode y_M_set.2.1 36 = .ok (.iload_n 3, 1) := by decide +kernel
theorem d_M_set_37 : decode y_M_set.2.1 37 = .ok (.iadd, 1) := by decide +kernel
theorem d_M_set_38 : decode y_M_set.2.1 38 = .ok (.istore 5, 2) := by decide +kernel
theorem d_M_set_40 : decode y_M_set.2.1 40 = .ok (.aload_n 0, 1) := by decide +kernel
theorem d_M_set_41 : decode y_M_set.2.1 41 = .ok (.getfield 16, 3) := by decide +kernel
theorem d_M_set_44 : decode y_M_set.2.1 44 = .ok (.getfield 184, 3) := by decide +kernel
theorem d_M_set_47 : decode y_M_set.2.1 47 = .ok (.iload 5, 2) := by decide +kernel
theorem d_M_set_49 : decode y_M_set.2.1 49 = .ok (.iaload, 1) := by decide +kernel
theorem d_M_set_50 : decode y_M_set.2.1 50 = .ok (.istore 6, 2) := by decide +kernel
theorem d_M_set_52 : decode y_M_set.2.1 52 = .ok (.aload_n 0, 1) := by decide +kernel
theorem d_M_set_53 : decode y_M_set.2.1 53 = .ok (.getfield 37, 3) := by decide +kernel
theorem d_M_set_56 : decode y_M_set.2.1 56 = .ok (.getfield 181, 3) := by decide +kernel
theorem d_M_set_59 : decode y_M_set.2.1 59 = .ok (.bipush 48, 2) := by decide +kernel
theorem d_M_set_61 : decode y_M_set.2.1 61 = .ok (.iload_n 1, 1) := by decide +kernel
theorem d_M_set_62 : decode y_M_set.2.1 62 = .ok (.sipush 255, 3) := by decide +kernel
theorem d_M_set_65 : decode y_M_set.2.1 65 = .ok (.iand, 1) := by decide +kernel
theorem d_M_set_66 : decode y_M_set.2.1 66 = .ok (.imul, 1) := by decide +kernel
theorem d_M_set_67 : decode y_M_set.2.1 67 = .ok (.iload 5, 2) := by decide +kernel
theorem d_M_set_69 : decode y_M_set.2.1 69 = .ok (.iadd, 1) := by decide +kernel
theorem d_M_set_70 : decode y_M_set.2.1 70 = .ok (.iload 6, 2) := by decide +kernel
theorem d_M_set_72 : decode y_M_set.2.1 72 = .ok (.iconst 3, 1) := by decide +kernel
theorem d_M_set_73 : decode y_M_set.2.1 73 = .ok (.if_icmp .ne 10, 3) := by decide +kernel
theorem d_M_set_76 : decode y_M_set.2.1 76 = .ok (.iload 4, 2) := by decide +kernel
theorem d_M_set_78 : decode y_M_set.2.1 78 = .ok (.iconst 1, 1) := by decide +kernel
theorem d_M_set_79 : decode y_M_set.2.1 79 = .ok (.iand, 1) := by decide +kernel
theorem d_M_set_80 : decode y_M_set.2.1 80 = .ok (.goto 31, 3) := by decide +kernel
theorem d_M_set_83 : decode y_M_set.2.1 83 = .ok (.iload 6, 2) := by decide +kernel
theorem d_M_set_85 : decode y_M_set.2.1 85 = .ok (.iconst 4, 1) := by decide +kernel
theorem d_M_set_86 : decode y_M_set.2.1 86 = .ok (.if_icmp .ne 17, 3) := by decide +kernel
theorem d_M_set_89 : decode y_M_set.2.1 89 = .ok (.iload 4, 2) := by decide +kernel
theorem d_M_set_91 : decode y_M_set.2.1 91 = .ok (.ifCond .ge 7, 3) := by decide +kernel
theorem d_M_set_94 : decode y_M_set.2.1 94 = .ok (.iconst (-1), 1) := by decide +kernel
theorem d_M_set_95 : decode y_M_set.2.1 95 = .ok (.goto 16, 3) := by decide +kernel
theorem d_M_set_98 : decode y_M_set.2.1 98 = .ok (.iload 4, 2) := by decide +kernel
theorem d_M_set_100 : decode y_M_set.2.1 100 = .ok (.goto 11, 3) := by decide +kernel
theorem d_M_set_103 : decode y_M_set.2.1 103 = .ok (.iload 6, 2) := by decide +kernel
theorem d_M_set_105 : decode y_M_set.2.1 105 = .ok (.iload 4, 2) := by decide +kernel
theorem d_M_set_107 : decode y_M_set.2.1 107 = .ok (.i2l, 1) := by decide +kernel
theorem d_M_set_108 : decode y_M_set.2.1 108 = .ok (.invokestatic 223, 3) := by decide +kernel
theorem d_M_set_111 : decode y_M_set.2.1 111 = .ok (.iastore, 1) := by decide +kernel
theorem d_M_set_112 : decode y_M_set.2.1 112 = .ok (.aload_n 0, 1) := by decide +kernel
theorem d_M_set_113 : decode y_M_set.2.1 113 = .ok (.getfield 33, 3) := by decide +kernel
theorem d_M_set_116 : decode y_M_set.2.1 116 = .ok (.aload_n 0, 1) := by decide +kernel
theorem d_M_set_117 : decode y_M_set.2.1 117 = .ok (.getfield 37, 3) := by decide +kernel
theorem d_M_set_120 : decode y_M_set.2.1 120 = .ok (.invokevirtual 129, 3) := by decide +kernel
theorem d_M_set_123 : decode y_M_set.2.1 123 = .ok (.iconst 0, 1) := by decide +kernel
theorem d_M_set_124 : decode y_M_set.2.1 124 = .ok (.ireturn, 1) := by decide +kernel
def y_M_isMember : ab_Y := (⟨"WorldEngineModel", "isMember", "(III)Z"⟩, prog_14_method_29_code, 4, (some FieldType.boolean), [])
theorem d_M_isMember_0 : decode y_M_isMember.2.1 0 = .ok (.aload_n 0, 1) := by decide +kernel
theorem d_M_isMember_1 : decode y_M_isMember.2.1 1 = .ok (.iload_n 2, 1) := by decide +kernel
theorem d_M_isMember_2 : decode y_M_isMember.2.1 2 = .ok (.invokevirtual 278, 3) := by decide +kernel
theorem d_M_isMember_5 : decode y_M_isMember.2.1 5 = .ok (.ifCond .eq 52, 3) := by decide +kernel
theorem d_M_isMember_8 : decode y_M_isMember.2.1 8 = .ok (.aload_n 0, 1) := by decide +kernel
theorem d_M_isMember_9 : decode y_M_isMember.2.1 9 = .ok (.getfield 37, 3) := by decide +kernel
theorem d_M_isMember_12 : decode y_M_isMember.2.1 12 = .ok (.iload_n 1, 1) := by decide +kernel
theorem d_M_isMember_13 : decode y_M_isMember.2.1 13 = .ok (.iload_n 2, 1) := by decide +kernel
theorem d_M_isMember_14 : decode y_M_isMember.2.1 14 = .ok (.invokevirtual 291, 3) := by decide +kernel
theorem d_M_isMember_17 : decode y_M_isMember.2.1 17 = .ok (.ifCond .eq 40, 3) := by decide +kernel
theorem d_M_isMember_20 : decode y_M_isMember.2.1 20 = .ok (.iload_n 3, 1) := by decide +kernel
theorem d_M_isMember_21 : decode y_M_isMember.2.1 21 = .ok (.i2l, 1) := by decide +kernel
theorem d_M_isMember_22 : decode y_M_isMember.2.1 22 = .ok (.lconst 0, 1) := by decide +kernel
theorem d_M_isMember_23 : decode y_M_isMember.2.1 23 = .ok (.aload_n 0, 1) := by decide +kernel
theorem d_M_isMember_24 : decode y_M_isMember.2.1 24 = .ok (.getfield 16, 3) := by decide +kernel
theorem d_M_isMember_27 : decode y_M_isMember.2.1 27 = .ok (.getfield 171, 3) := by decide +kernel
theorem d_M_isMember_30 : decode y_M_isMember.2.1 30 = .ok (.iload_n 2, 1) := by decide +kernel
theorem d_M_isMember_31 : decode y_M_isMember.2.1 31 = .ok (.iconst 1, 1) := by decide +kernel
theorem d_M_isMember_32 : decode y_M_isMember.2.1 32 = .ok (.iadd, 1) := by decide +kernel
theorem d_M_isMember_33 : decode y_M_isMember.2.1 33 = .ok (.iaload, 1) := by decide +kernel
theorem d_M_isMember_34 : decode y_M_isMember.2.1 34 = .ok (.aload_n 0, 1) := by decide +kernel
theorem d_M_isMember_35 : decode y_M_isMember.2.1 35 = .ok (.getfield 16, 3) := by decide +kernel
theorem d_M_isMember_38 : decode y_M_isMember.2.1 38 = .ok (.getfield 171, 3) := by decide +kernel
theorem d_M_isMember_41 : decode y_M_isMember.2.1 41 = .ok (.iload_n 2, 1) := by decide +kernel
theorem d_M_isMember_42 : decode y_M_isMember.2.1 42 = .ok (.iaload, 1) := by decide +kernel
theorem d_M_isMember_43 : decode y_M_isMember.2.1 43 = .ok (.isub, 1) := by decide +kernel
theorem d_M_isMember_44 : decode y_M_isMember.2.1 44 = .ok (.iconst 1, 1) := by decide +kernel
theorem d_M_isMember_45 : decode y_M_isMember.2.1 45 = .ok (.isub, 1) := by decide +kernel
theorem d_M_isMember_46 : decode y_M_isMember.2.1 46 = .ok (.i2l, 1) := by decide +kernel
theorem d_M_isMember_47 : decode y_M_isMember.2.1 47 = .ok (.invokestatic 99, 3) := by decide +kernel
theorem d_M_isMember_50 : decode y_M_isMember.2.1 50 = .ok (.ifCond .eq 7, 3) := by decide +kernel
theorem d_M_isMember_53 : decode y_M_isMember.2.1 53 = .ok (.iconst 1, 1) := by decide +kernel
theorem d_M_isMember_54 : decode y_M_isMember.2.1 54 = .ok (.goto 4, 3) := by decide +kernel
theorem d_M_isMember_57 : decode y_M_isMember.2.1 57 = .ok (.iconst 0, 1) := by decide +kernel
theorem d_M_isMember_58 : decode y_M_isMember.2.1 58 = .ok (.ireturn, 1) := by decide +kernel
def y_M_get : ab_Y := (⟨"WorldEngineModel", "get", "(III)I"⟩, prog_14_method_31_code, 4, (some FieldType.int), [])
theorem d_M_get_0 : decode y_M_get.2.1 0 = .ok (.aload_n 0, 1) := by decide +kernel
theorem d_M_get_1 : decode y_M_get.2.1 1 = .ok (.aload_n 0, 1) := by decide +kernel
theorem d_M_get_2 : decode y_M_get.2.1 2 = .ok (.iload_n 1, 1) := by decide +kernel
theorem d_M_get_3 : decode y_M_get.2.1 3 = .ok (.iload_n 2, 1) := by decide +kernel
theorem d_M_get_4 : decode y_M_get.2.1 4 = .ok (.iload_n 3, 1) := by decide +kernel
theorem d_M_get_5 : decode y_M_get.2.1 5 = .ok (.invokevirtual 293, 3) := by decide +kernel
theorem d_M_get_8 : decode y_M_get.2.1 8 = .ok (.ifCond .eq 7, 3) := by decide +kernel
theorem d_M_get_11 : decode y_M_get.2.1 11 = .ok (.iconst 0, 1) := by decide +kernel
theorem d_M_get_12 : decode y_M_get.2.1 12 = .ok (.goto 4, 3) := by decide +kernel
theorem d_M_get_15 : decode y_M_get.2.1 15 = .ok (.iconst 1, 1) := by decide +kernel
theorem d_M_get_16 : decode y_M_get.2.1 16 = .ok (.putfield 83, 3) := by decide +kernel
theorem d_M_get_19 : decode y_M_get.2.1 19 = .ok (.aload_n 0, 1) := by decide +kernel
theorem d_M_get_20 : decode y_M_get.2.1 20 = .ok (.getfield 83, 3) := by decide +kernel
theorem d_M_get_23 : decode y_M_get.2.1 23 = .ok (.ifCond .le 7, 3) := by decide +kernel
theorem d_M_get_26 : decode y_M_get.2.1 26 = .ok (.iconst 0, 1) := by decide +kernel
theorem d_M_get_27 : decode y_M_get.2.1 27 = .ok (.goto 31, 3) := by decide +kernel
theorem d_M_get_30 : decode y_M_get.2.1 30 = .ok (.aload_n 0, 1) := by decide +kernel
theorem d_M_get_31 : decode y_M_get.2.1 31 = .ok (.getfield 37, 3) := by decide +kernel
theorem d_M_get_34 : decode y_M_get.2.1 34 = .ok (.getfield 181, 3) := by decide +kernel
theorem d_M_get_37 : decode y_M_get.2.1 37 = .ok (.bipush 48, 2) := by decide +kernel
theorem d_M_get_39 : decode y_M_get.2.1 39 = .ok (.iload_n 1, 1) := by decide +kernel
theorem d_M_get_40 : decode y_M_get.2.1 40 = .ok (.sipush 255, 3) := by decide +kernel
theorem d_M_get_43 : decode y_M_get.2.1 43 = .ok (.iand, 1) := by decide +kernel
theorem d_M_get_44 : decode y_M_get.2.1 44 = .ok (.imul, 1) := by decide +kernel
theorem d_M_get_45 : decode y_M_get.2.1 45 = .ok (.aload_n 0, 1) := by decide +kernel
theorem d_M_get_46 : decode y_M_get.2.1 46 = .ok (.getfield 16, 3) := by decide +kernel
theorem d_M_get_49 : decode y_M_get.2.1 49 = .ok (.getfield 171, 3) := by decide +kernel
theorem d_M_get_52 : decode y_M_get.2.1 52 = .ok (.iload_n 2, 1) := by decide +kernel
theorem d_M_get_53 : decode y_M_get.2.1 53 = .ok (.iaload, 1) := by decide +kernel
theorem d_M_get_54 : decode y_M_get.2.1 54 = .ok (.iadd, 1) := by decide +kernel
theorem d_M_get_55 : decode y_M_get.2.1 55 = .ok (.iload_n 3, 1) := by decide +kernel
theorem d_M_get_56 : decode y_M_get.2.1 56 = .ok (.iadd, 1) := by decide +kernel
theorem d_M_get_57 : decode y_M_get.2.1 57 = .ok (.iaload, 1) := by decide +kernel
theorem d_M_get_58 : decode y_M_get.2.1 58 = .ok (.ireturn, 1) := by decide +kernel
def y_M_has : ab_Y := (⟨"WorldEngineModel", "has", "(II)Z"⟩, prog_14_method_32_code, 3, (some FieldType.boolean), [])
theorem d_M_has_0 : decode y_M_has.2.1 0 = .ok (.aload_n 0, 1) := by decide +kernel
theorem d_M_has_1 : decode y_M_has.2.1 1 = .ok (.iconst 0, 1) := by decide +kernel
theorem d_M_has_2 : decode y_M_has.2.1 2 = .ok (.putfield 83, 3) := by decide +kernel
theorem d_M_has_5 : decode y_M_has.2.1 5 = .ok (.aload_n 0, 1) := by decide +kernel
theorem d_M_has_6 : decode y_M_has.2.1 6 = .ok (.iload_n 2, 1) := by decide +kernel
theorem d_M_has_7 : decode y_M_has.2.1 7 = .ok (.invokevirtual 278, 3) := by decide +kernel
theorem d_M_has_10 : decode y_M_has.2.1 10 = .ok (.ifCond .eq 19, 3) := by decide +kernel
theorem d_M_has_13 : decode y_M_has.2.1 13 = .ok (.aload_n 0, 1) := by decide +kernel
theorem d_M_has_14 : decode y_M_has.2.1 14 = .ok (.getfield 37, 3) := by decide +kernel
theorem d_M_has_17 : decode y_M_has.2.1 17 = .ok (.iload_n 1, 1) := by decide +kernel
theorem d_M_has_18 : decode y_M_has.2.1 18 = .ok (.iload_n 2, 1) := by decide +kernel
theorem d_M_has_19 : decode y_M_has.2.1 19 = .ok (.invokevirtual 291, 3) := by decide +kernel
theorem d_M_has_22 : decode y_M_has.2.1 22 = .ok (.ifCond .eq 7, 3) := by decide +kernel
theorem d_M_has_25 : decode y_M_has.2.1 25 = .ok (.iconst 1, 1) := by decide +kernel
theorem d_M_has_26 : decode y_M_has.2.1 26 = .ok (.goto 4, 3) := by decide +kernel
theorem d_M_has_29 : decode y_M_has.2.1 29 = .ok (.iconst 0, 1) := by decide +kernel
theorem d_M_has_30 : decode y_M_has.2.1 30 = .ok (.ireturn, 1) := by decide +kernel
def y_M_entity : ab_Y := (⟨"WorldEngineModel", "entity", "(I)I"⟩, prog_14_method_33_code, 4, (some FieldType.int), [])
theorem d_M_entity_0 : decode y_M_entity.2.1 0 = .ok (.aload_n 0, 1) := by decide +kernel
theorem d_M_entity_1 : decode y_M_entity.2.1 1 = .ok (.iconst 0, 1) := by decide +kernel
theorem d_M_entity_2 : decode y_M_entity.2.1 2 = .ok (.putfield 83, 3) := by decide +kernel
theorem d_M_entity_5 : decode y_M_entity.2.1 5 = .ok (.iload_n 1, 1) := by decide +kernel
theorem d_M_entity_6 : decode y_M_entity.2.1 6 = .ok (.istore_n 2, 1) := by decide +kernel
theorem d_M_entity_7 : decode y_M_entity.2.1 7 = .ok (.iconst 0, 1) := by decide +kernel
theorem d_M_entity_8 : decode y_M_entity.2.1 8 = .ok (.istore_n 3, 1) := by decide +kernel
theorem d_M_entity_9 : decode y_M_entity.2.1 9 = .ok (.iload_n 3, 1) := by decide +kernel
theorem d_M_entity_10 : decode y_M_entity.2.1 10 = .ok (.sipush 256, 3) := by decide +kernel
theorem d_M_entity_13 : decode y_M_entity.2.1 13 = .ok (.if_icmp .ge 44, 3) := by decide +kernel
theorem d_M_entity_16 : decode y_M_entity.2.1 16 = .ok (.iload_n 1, 1) := by decide +kernel
theorem d_M_entity_17 : decode y_M_entity.2.1 17 = .ok (.ifCond .lt 40, 3) := by decide +kernel
theorem d_M_entity_20 : decode y_M_entity.2.1 20 = .ok (.aload_n 0, 1) := by decide +kernel
theorem d_M_entity_21 : decode y_M_entity.2.1 21 = .ok (.getfield 37, 3) := by decide +kernel
theorem d_M_entity_24 : decode y_M_entity.2.1 24 = .ok (.getfield 158, 3) := by decide +kernel
theorem d_M_entity_27 : decode y_M_entity.2.1 27 = .ok (.iload_n 3, 1) := by decide +kernel
theorem d_M_entity_28 : decode y_M_entity.2.1 28 = .ok (.baload, 1) := by decide +kernel
theorem d_M_entity_29 : decode y_M_entity.2.1 29 = .ok (.ifCond .ne 6, 3) := by decide +kernel
theorem d_M_entity_32 : decode y_M_entity.2.1 32 = .ok (.goto 19, 3) := by decide +kernel
theorem d_M_entity_35 : decode y_M_entity.2.1 35 = .ok (.iload_n 2, 1) := by decide +kernel
theorem d_M_entity_36 : decode y_M_entity.2.1 36 = .ok (.ifCond .ne 12, 3) := by decide +kernel
theorem d_M_entity_39 : decode y_M_entity.2.1 39 = .ok (.aload_n 0, 1) := by decide +kernel
theorem d_M_entity_40 : decode y_M_entity.2.1 40 = .ok (.getfield 37, 3) := by decide +kernel
theorem d_M_entity_43 : decode y_M_entity.2.1 43 = .ok (.iload_n 3, 1) := by decide +kernel
theorem d_M_entity_44 : decode y_M_entity.2.1 44 = .ok (.invokevirtual 269, 3) := by decide +kernel
theorem d_M_entity_47 : decode y_M_entity.2.1 47 = .ok (.ireturn, 1) := by decide +kernel
theorem d_M_entity_48 : decode y_M_entity.2.1 48 = .ok (.iinc 2 (-1), 3) := by decide +kernel
theorem d_M_entity_51 : decode y_M_entity.2.1 51 = .ok (.iinc 3 1, 3) := by decide +kernel
theorem d_M_entity_54 : decode y_M_entity.2.1 54 = .ok (.goto (-45), 3) := by decide +kernel
theorem d_M_entity_57 : decode y_M_entity.2.1 57 = .ok (.iconst (-1), 1) := by decide +kernel
theorem d_M_entity_58 : decode y_M_entity.2.1 58 = .ok (.ireturn, 1) := by decide +kernel
def y_M_row : ab_Y := (⟨"WorldEngineModel", "row", "(II)I"⟩, prog_14_method_34_code, 5, (some FieldType.int), [])
theorem d_M_row_0 : decode y_M_row.2.1 0 = .ok (.aload_n 0, 1) := by decide +kernel
theorem d_M_row_1 : decode y_M_row.2.1 1 = .ok (.iconst 0, 1) := by decide +kernel
theorem d_M_row_2 : decode y_M_row.2.1 2 = .ok (.putfield 83, 3) := by decide +kernel
theorem d_M_row_5 : decode y_M_row.2.1 5 = .ok (.iload_n 2, 1) := by decide +kernel
theorem d_M_row_6 : decode y_M_row.2.1 6 = .ok (.istore_n 3, 1) := by decide +kernel
theorem d_M_row_7 : decode y_M_row.2.1 7 = .ok (.iconst 0, 1) := by decide +kernel
theorem d_M_row_8 : decode y_M_row.2.1 8 = .ok (.istore 4, 2) := by decide +kernel
theorem d_M_row_10 : decode y_M_row.2.1 10 = .ok (.iload 4, 2) := by decide +kernel
theorem d_M_row_12 : decode y_M_row.2.1 12 = .ok (.sipush 256, 3) := by decide +kernel
theorem d_M_row_15 : decode y_M_row.2.1 15 = .ok (.if_icmp .ge 69, 3) := by decide +kernel
theorem d_M_row_18 : decode y_M_row.2.1 18 = .ok (.iload_n 2, 1) := by decide +kernel
theorem d_M_row_19 : decode y_M_row.2.1 19 = .ok (.ifCond .lt 65, 3) := by decide +kernel
theorem d_M_row_22 : decode y_M_row.2.1 22 = .ok (.iload_n 1, 1) := by decide +kernel
theorem d_M_row_23 : decode y_M_row.2.1 23 = .ok (.i2l, 1) := by decide +kernel
theorem d_M_row_24 : decode y_M_row.2.1 24 = .ok (.lconst 0, 1) := by decide +kernel
theorem d_M_row_25 : decode y_M_row.2.1 25 = .ok (.aload_n 0, 1) := by decide +kernel
theorem d_M_row_26 : decode y_M_row.2.1 26 = .ok (.getfield 16, 3) := by decide +kernel
theorem d_M_row_29 : decode y_M_row.2.1 29 = .ok (.getfield 142, 3) := by decide +kernel
theorem d_M_row_32 : decode y_M_row.2.1 32 = .ok (.iconst 1, 1) := by decide +kernel
theorem d_M_row_33 : decode y_M_row.2.1 33 = .ok (.isub, 1) := by decide +kernel
theorem d_M_row_34 : decode y_M_row.2.1 34 = .ok (.i2l, 1) := by decide +kernel
theorem d_M_row_35 : decode y_M_row.2.1 35 = .ok (.invokestatic 99, 3) := by decide +kernel
theorem d_M_row_38 : decode y_M_row.2.1 38 = .ok (.ifCond .eq 46, 3) := by decide +kernel
theorem d_M_row_41 : decode y_M_row.2.1 41 = .ok (.aload_n 0, 1) := by decide +kernel
theorem d_M_row_42 : decode y_M_row.2.1 42 = .ok (.getfield 16, 3) := by decide +kernel
theorem d_M_row_45 : decode y_M_row.2.1 45 = .ok (.iload_n 1, 1) := by decide +kernel
theorem d_M_row_46 : decode y_M_row.2.1 46 = .ok (.aload_n 0, 1) := by decide +kernel
theorem d_M_row_47 : decode y_M_row.2.1 47 = .ok (.getfield 37, 3) := by decide +kernel
theorem d_M_row_50 : decode y_M_row.2.1 50 = .ok (.iload 4, 2) := by decide +kernel
theorem d_M_row_52 : decode y_M_row.2.1 52 = .ok (.invokevirtual 297, 3) := by decide +kernel
theorem d_M_row_55 : decode y_M_row.2.1 55 = .ok (.ifCond .ne 6, 3) := by decide +kernel
theorem d_M_row_58 : decode y_M_row.2.1 58 = .ok (.goto 20, 3) := by decide +kernel
theorem d_M_row_61 : decode y_M_row.2.1 61 = .ok (.iload_n 3, 1) := by decide +kernel
theorem d_M_row_62 : decode y_M_row.2.1 62 = .ok (.ifCond .ne 13, 3) := by decide +kernel
theorem d_M_row_65 : decode y_M_row.2.1 65 = .ok (.aload_n 0, 1) := by decide +kernel
theorem d_M_row_66 : decode y_M_row.2.1 66 = .ok (.getfield 37, 3) := by decide +kernel
theorem d_M_row_69 : decode y_M_row.2.1 69 = .ok (.iload 4, 2) := by decide +kernel
theorem d_M_row_71 : decode y_M_row.2.1 71 = .ok (.invokevirtual 269, 3) := by decide +kernel
theorem d_M_row_74 : decode y_M_row.2.1 74 = .ok (.ireturn, 1) := by decide +kernel
theorem d_M_row_75 : decode y_M_row.2.1 75 = .ok (.iinc 3 (-1), 3) := by decide +kernel
theorem d_M_row_78 : decode y_M_row.2.1 78 = .ok (.iinc 4 1, 3) := by decide +kernel
theorem d_M_row_81 : decode y_M_row.2.1 81 = .ok (.goto (-71), 3) := by decide +kernel
theorem d_M_row_84 : decode y_M_row.2.1 84 = .ok (.iconst (-1), 1) := by decide +kernel
theorem d_M_row_85 : decode y_M_row.2.1 85 = .ok (.ireturn, 1) := by decide +kernel
def y_M_group : ab_Y := (⟨"WorldEngineModel", "group", "(I)I"⟩, prog_14_method_35_code, 2, (some FieldType.int), [])
theorem d_M_group_0 : decode y_M_group.2.1 0 = .ok (.aload_n 0, 1) := by decide +kernel
theorem d_M_group_1 : decode y_M_group.2.1 1 = .ok (.iconst 0, 1) := by decide +kernel
theorem d_M_group_2 : decode y_M_group.2.1 2 = .ok (.putfield 83, 3) := by decide +kernel
theorem d_M_group_5 : decode y_M_group.2.1 5 = .ok (.iload_n 1, 1) := by decide +kernel
theorem d_M_group_6 : decode y_M_group.2.1 6 = .ok (.i2l, 1) := by decide +kernel
theorem d_M_group_7 : decode y_M_group.2.1 7 = .ok (.lconst 0, 1) := by decide +kernel
theorem d_M_group_8 : decode y_M_group.2.1 8 = .ok (.aload_n 0, 1) := by decide +kernel
theorem d_M_group_9 : decode y_M_group.2.1 9 = .ok (.getfield 16, 3) := by decide +kernel
theorem d_M_group_12 : decode y_M_group.2.1 12 = .ok (.getfield 142, 3) := by decide +kernel
theorem d_M_group_15 : decode y_M_group.2.1 15 = .ok (.iconst 1, 1) := by decide +kernel
theorem d_M_group_16 : decode y_M_group.2.1 16 = .ok (.isub, 1) := by decide +kernel
theorem d_M_group_17 : decode y_M_group.2.1 17 = .ok (.i2l, 1) := by decide +kernel
theorem d_M_group_18 : decode y_M_group.2.1 18 = .ok (.invokestatic 99, 3) := by decide +kernel
theorem d_M_group_21 : decode y_M_group.2.1 21 = .ok (.ifCond .eq 15, 3) := by decide +kernel
theorem d_M_group_24 : decode y_M_group.2.1 24 = .ok (.aload_n 0, 1) := by decide +kernel
theorem d_M_group_25 : decode y_M_group.2.1 25 = .ok (.getfield 16, 3) := by decide +kernel
theorem d_M_group_28 : decode y_M_group.2.1 28 = .ok (.getfield 301, 3) := by decide +kernel
theorem d_M_group_31 : decode y_M_group.2.1 31 = .ok (.iload_n 1, 1) := by decide +kernel
theorem d_M_group_32 : decode y_M_group.2.1 32 = .ok (.iaload, 1) := by decide +kernel
theorem d_M_group_33 : decode y_M_group.2.1 33 = .ok (.goto 4, 3) := by decide +kernel
theorem d_M_group_36 : decode y_M_group.2.1 36 = .ok (.iconst (-1), 1) := by decide +kernel
theorem d_M_group_37 : decode y_M_group.2.1 37 = .ok (.ireturn, 1) := by decide +kernel
def y_M_shown : ab_Y := (⟨"WorldEngineModel", "shown", "(I)I"⟩, prog_14_method_36_code, 2, (some FieldType.int), [])
theorem d_M_shown_0 : decode y_M_shown.2.1 0 = .ok (.aload_n 0, 1) := by decide +kernel
theorem d_M_shown_1 : decode y_M_shown.2.1 1 = .ok (.iload_n 1, 1) := by decide +kernel
theorem d_M_shown_2 : decode y_M_shown.2.1 2 = .ok (.i2l, 1) := by decide +kernel
theorem d_M_shown_3 : decode y_M_shown.2.1 3 = .ok (.lconst 0, 1) := by decide +kernel
theorem d_M_shown_4 : decode y_M_shown.2.1 4 = .ok (.aload_n 0, 1) := by decide +kernel
theorem d_M_shown_5 : decode y_M_shown.2.1 5 = .ok (.getfield 136, 3) := by decide +kernel
theorem d_M_shown_8 : decode y_M_shown.2.1 8 = .ok (.sipush 256, 3) := by decide +kernel
theorem d_M_shown_11 : decode y_M_shown.2.1 11 = .ok (.if_icmp .ge 10, 3) := by decide +kernel
theorem d_M_shown_14 : decode y_M_shown.2.1 14 = .ok (.aload_n 0, 1) := by decide +kernel
theorem d_M_shown_15 : decode y_M_shown.2.1 15 = .ok (.getfield 136, 3) := by decide +kernel
theorem d_M_shown_18 : decode y_M_shown.2.1 18 = .ok (.goto 6, 3) := by decide +kernel
theorem d_M_shown_21 : decode y_M_shown.2.1 21 = .ok (.sipush 256, 3) := by decide +kernel
theorem d_M_shown_24 : decode y_M_shown.2.1 24 = .ok (.iconst 1, 1) := by decide +kernel
theorem d_M_shown_25 : decode y_M_shown.2.1 25 = .ok (.isub, 1) := by decide +kernel
theorem d_M_shown_26 : decode y_M_shown.2.1 26 = .ok (.i2l, 1) := by decide +kernel
theorem d_M_shown_27 : decode y_M_shown.2.1 27 = .ok (.invokestatic 99, 3) := by decide +kernel
theorem d_M_shown_30 : decode y_M_shown.2.1 30 = .ok (.ifCond .eq 7, 3) := by decide +kernel
theorem d_M_shown_33 : decode y_M_shown.2.1 33 = .ok (.iconst 0, 1) := by decide +kernel
theorem d_M_shown_34 : decode y_M_shown.2.1 34 = .ok (.goto 4, 3) := by decide +kernel
theorem d_M_shown_37 : decode y_M_shown.2.1 37 = .ok (.iconst 1, 1) := by decide +kernel
theorem d_M_shown_38 : decode y_M_shown.2.1 38 = .ok (.putfield 83, 3) := by decide +kernel
theorem d_M_shown_41 : decode y_M_shown.2.1 41 = .ok (.aload_n 0, 1) := by decide +kernel
theorem d_M_shown_42 : decode y_M_shown.2.1 42 = .ok (.getfield 83, 3) := by decide +kernel
theorem d_M_shown_45 : decode y_M_shown.2.1 45 = .ok (.ifCond .le 7, 3) := by decide +kernel
theorem d_M_shown_48 : decode y_M_shown.2.1 48 = .ok (.iconst 0, 1) := by decide +kernel
theorem d_M_shown_49 : decode y_M_shown.2.1 49 = .ok (.goto 20, 3) := by decide +kernel
theorem d_M_shown_52 : decode y_M_shown.2.1 52 = .ok (.aload_n 0, 1) := by decide +kernel
theorem d_M_shown_53 : decode y_M_shown.2.1 53 = .ok (.getfield 70, 3) := by decide +kernel
theorem d_M_shown_56 : decode y_M_shown.2.1 56 = .ok (.aload_n 0, 1) := by decide +kernel
theorem d_M_shown_57 : decode y_M_shown.2.1 57 = .ok (.getfield 136, 3) := by decide +kernel
theorem d_M_shown_60 : decode y_M_shown.2.1 60 = .ok (.iconst 1, 1) := by decide +kernel
theorem d_M_shown_61 : decode y_M_shown.2.1 61 = .ok (.isub, 1) := by decide +kernel
theorem d_M_shown_62 : decode y_M_shown.2.1 62 = .ok (.iload_n 1, 1) := by decide +kernel
theorem d_M_shown_63 : decode y_M_shown.2.1 63 = .ok (.isub, 1) := by decide +kernel
theorem d_M_shown_64 : decode y_M_shown.2.1 64 = .ok (.sipush 255, 3) := by decide +kernel
theorem d_M_shown_67 : decode y_M_shown.2.1 67 = .ok (.iand, 1) := by decide +kernel
theorem d_M_shown_68 : decode y_M_shown.2.1 68 = .ok (.iaload, 1) := by decide +kernel
theorem d_M_shown_69 : decode y_M_shown.2.1 69 = .ok (.ireturn, 1) := by decide +kernel
def y_M_failure : ab_Y := (⟨"WorldEngineModel", "failure", "(I)I"⟩, prog_14_method_37_code, 2, (some FieldType.int), [])
theorem d_M_failure_0 : decode y_M_failure.2.1 0 = .ok (.aload_n 0, 1) := by decide +kernel
theorem d_M_failure_1 : decode y_M_failure.2.1 1 = .ok (.iconst 0, 1) := by decide +kernel
theorem d_M_failure_2 : decode y_M_failure.2.1 2 = .ok (.putfield 83, 3) := by decide +kernel
theorem d_M_failure_5 : decode y_M_failure.2.1 5 = .ok (.aload_n 0, 1) := by decide +kernel
theorem d_M_failure_6 : decode y_M_failure.2.1 6 = .ok (.getfield 37, 3) := by decide +kernel
theorem d_M_failure_9 : decode y_M_failure.2.1 9 = .ok (.getfield 154, 3) := by decide +kernel
theorem d_M_failure_12 : decode y_M_failure.2.1 12 = .ok (.ifCond .ge 5, 3) := by decide +kernel
theorem d_M_failure_15 : decode y_M_failure.2.1 15 = .ok (.iconst (-1), 1) := by decide +kernel
theorem d_M_failure_16 : decode y_M_failure.2.1 16 = .ok (.ireturn, 1) := by decide +kernel
theorem d_M_failure_17 : decode y_M_failure.2.1 17 = .ok (.iload_n 1, 1) := by decide +kernel
theorem d_M_failure_18 : decode y_M_failure.2.1 18 = .ok (.ifCond .ne 13, 3) := by decide +kernel
theorem d_M_failure_21 : decode y_M_failure.2.1 21 = .ok (.aload_n 0, 1) := by decide +kernel
theorem d_M_failure_22 : decode y_M_failure.2.1 22 = .ok (.getfield 37, 3) := by decide +kernel
theorem d_M_failure_25 : decode y_M_failure.2.1 25 = .ok (.getfield 154, 3) := by decide +kernel
theorem d_M_failure_28 : decode y_M_failure.2.1 28 = .ok (.goto 34, 3) := by decide +kernel
theorem d_M_failure_31 : decode y_M_failure.2.1 31 = .ok (.iload_n 1, 1) := by decide +kernel
theorem d_M_failure_32 : decode y_M_failure.2.1 32 = .ok (.iconst 1, 1) := by decide +kernel
theorem d_M_failure_33 : decode y_M_failure.2.1 33 = .ok (.if_icmp .ne 13, 3) := by decide +kernel
theorem d_M_failure_36 : decode y_M_failure.2.1 36 = .ok (.aload_n 0, 1) := by decide +kernel
theorem d_M_failure_37 : decode y_M_failure.2.1 37 = .ok (.getfield 37, 3) := by decide +kernel
theorem d_M_failure_40 : decode y_M_failure.2.1 40 = .ok (.getfield 304, 3) := by decide +kernel
theorem d_M_failure_43 : decode y_M_failure.2.1 43 = .ok (.goto 19, 3) := by decide +kernel
theorem d_M_failure_46 : decode y_M_failure.2.1 46 = .ok (.iload_n 1, 1) := by decide +kernel
theorem d_M_failure_47 : decode y_M_failure.2.1 47 = .ok (.iconst 2, 1) := by decide +kernel
theorem d_M_failure_48 : decode y_M_failure.2.1 48 = .ok (.if_icmp .ne 13, 3) := by decide +kernel
theorem d_M_failure_51 : decode y_M_failure.2.1 51 = .ok (.aload_n 0, 1) := by decide +kernel
theorem d_M_failure_52 : decode y_M_failure.2.1 52 = .ok (.getfield 37, 3) := by decide +kernel
theorem d_M_failure_55 : decode y_M_failure.2.1 55 = .ok (.getfield 307, 3) := by decide +kernel
theorem d_M_failure_58 : decode y_M_failure.2.1 58 = .ok (.goto 4, 3) := by decide +kernel
theorem d_M_failure_61 : decode y_M_failure.2.1 61 = .ok (.iconst (-1), 1) := by decide +kernel
theorem d_M_failure_62 : decode y_M_failure.2.1 62 = .ok (.ireturn, 1) := by decide +kernel
def y_M_pending : ab_Y := (⟨"WorldEngineModel", "pending", "(II)I"⟩, prog_14_method_38_code, 3, (some FieldType.int), [])
theorem d_M_pending_0 : decode y_M_pending.2.1 0 = .ok (.aload_n 0, 1) := by decide +kernel
theorem d_M_pending_1 : decode y_M_pending.2.1 1 = .ok (.iconst 0, 1) := by decide +kernel
theorem d_M_pending_2 : decode y_M_pending.2.1 2 = .ok (.putfield 83, 3) := by decide +kernel
theorem d_M_pending_5 : decode y_M_pending.2.1 5 = .ok (.iload_n 1, 1) := by decide +kernel
theorem d_M_pending_6 : decode y_M_pending.2.1 6 = .ok (.i2l, 1) := by decide +kernel
theorem d_M_pending_7 : decode y_M_pending.2.1 7 = .ok (.lconst 0, 1) := by decide +kernel
theorem d_M_pending_8 : decode y_M_pending.2.1 8 = .ok (.aload_n 0, 1) := by decide +kernel
theorem d_M_pending_9 : decode y_M_pending.2.1 9 = .ok (.getfield 37, 3) := by decide +kernel
theorem d_M_pending_12 : decode y_M_pending.2.1 12 = .ok (.getfield 195, 3) := by decide +kernel
theorem d_M_pending_15 : decode y_M_pending.2.1 15 = .ok (.iconst 1, 1) := by decide +kernel
theorem d_M_pending_16 : decode y_M_pending.2.1 16 = .ok (.isub, 1) := by decide +kernel
theorem d_M_pending_17 : decode y_M_pending.2.1 17 = .ok (.i2l, 1) := by decide +kernel
theorem d_M_pending_18 : decode y_M_pending.2.1 18 = .ok (.invokestatic 99, 3) := by decide +kernel
theorem d_M_pending_21 : decode y_M_pending.2.1 21 = .ok (.ifCond .eq 7, 3) := by decide +kernel
theorem d_M_pending_24 : decode y_M_pending.2.1 24 = .ok (.iload_n 2, 1) := by decide +kernel
theorem d_M_pending_25 : decode y_M_pending.2.1 25 = .ok (.ifCond .ge 5, 3) := by decide +kernel
theorem d_M_pending_28 : decode y_M_pending.2.1 28 = .ok (.iconst (-1), 1) := by decide +kernel
theorem d_M_pending_29 : decode y_M_pending.2.1 29 = .ok (.ireturn, 1) := by decide +kernel
theorem d_M_pending_30 : decode y_M_pending.2.1 30 = .ok (.iload_n 2, 1) := by decide +kernel
theorem d_M_pending_31 : decode y_M_pending.2.1 31 = .ok (.iconst 3, 1) := by decide +kernel
theorem d_M_pending_32 : decode y_M_pending.2.1 32 = .ok (.if_icmp .ge 46, 3) := by decide +kernel
theorem d_M_pending_35 : decode y_M_pending.2.1 35 = .ok (.iload_n 2, 1) := by decide +kernel
theorem d_M_pending_36 : decode y_M_pending.2.1 36 = .ok (.ifCond .ne 15, 3) := by decide +kernel
theorem d_M_pending_39 : decode y_M_pending.2.1 39 = .ok (.aload_n 0, 1) := by decide +kernel
theorem d_M_pending_40 : decode y_M_pending.2.1 40 = .ok (.getfield 37, 3) := by decide +kernel
theorem d_M_pending_43 : decode y_M_pending.2.1 43 = .ok (.getfield 201, 3) := by decide +kernel
theorem d_M_pending_46 : decode y_M_pending.2.1 46 = .ok (.iload_n 1, 1) := by decide +kernel
theorem d_M_pending_47 : decode y_M_pending.2.1 47 = .ok (.iaload, 1) := by decide +kernel
theorem d_M_pending_48 : decode y_M_pending.2.1 48 = .ok (.goto 29, 3) := by decide +kernel
theorem d_M_pending_51 : decode y_M_pending.2.1 51 = .ok (.iload_n 2, 1) := by decide +kernel
theorem d_M_pending_52 : decode y_M_pending.2.1 52 = .ok (.iconst 1, 1) := by decide +kernel
theorem d_M_pending_53 : decode y_M_pending.2.1 53 = .ok (.if_icmp .ne 15, 3) := by decide +kernel
theorem d_M_pending_56 : decode y_M_pending.2.1 56 = .ok (.aload_n 0, 1) := by decide +kernel
theorem d_M_pending_57 : decode y_M_pending.2.1 57 = .ok (.getfield 37, 3) := by decide +kernel
theorem d_M_pending_60 : decode y_M_pending.2.1 60 = .ok (.getfield 208, 3) := by decide +kernel
theorem d_M_pending_63 : decode y_M_pending.2.1 63 = .ok (.iload_n 1, 1) := by decide +kernel
theorem d_M_pending_64 : decode y_M_pending.2.1 64 = .ok (.iaload, 1) := by decide +kernel
theorem d_M_pending_65 : decode y_M_pending.2.1 65 = .ok (.goto 12, 3) := by decide +kernel
theorem d_M_pending_68 : decode y_M_pending.2.1 68 = .ok (.aload_n 0, 1) := by decide +kernel
theorem d_M_pending_69 : decode y_M_pending.2.1 69 = .ok (.getfield 37, 3) := by decide +kernel
theorem d_M_pending_72 : decode y_M_pending.2.1 72 = .ok (.getfield 211, 3) := by decide +kernel
theorem d_M_pending_75 : decode y_M_pending.2.1 75 = .ok (.iload_n 1, 1) := by decide +kernel
theorem d_M_pending_76 : decode y_M_pending.2.1 76 = .ok (.iaload, 1) := by decide +kernel
theorem d_M_pending_77 : decode y_M_pending.2.1 77 = .ok (.ireturn, 1) := by decide +kernel
theorem d_M_pending_78 : decode y_M_pending.2.1 78 = .ok (.iload_n 2, 1) := by decide +kernel
theorem d_M_pending_79 : decode y_M_pending.2.1 79 = .ok (.iconst 3, 1) := by decide +kernel
theorem d_M_pending_80 : decode y_M_pending.2.1 80 = .ok (.isub, 1) := by decide +kernel
theorem d_M_pending_81 : decode y_M_pending.2.1 81 = .ok (.aload_n 0, 1) := by decide +kernel
theorem d_M_pending_82 : decode y_M_pending.2.1 82 = .ok (.getfield 16, 3) := by decide +kernel
theorem d_M_pending_85 : decode y_M_pending.2.1 85 = .ok (.getfield 310, 3) := by decide +kernel
theorem d_M_pending_88 : decode y_M_pending.2.1 88 = .ok (.aload_n 0, 1) := by decide +kernel
theorem d_M_pending_89 : decode y_M_pending.2.1 89 = .ok (.getfield 37, 3) := by decide +kernel
theorem d_M_pending_92 : decode y_M_pending.2.1 92 = .ok (.getfield 201, 3) := by decide +kernel
theorem d_M_pending_95 : decode y_M_pending.2.1 95 = .ok (.iload_n 1, 1) := by decide +kernel
theorem d_M_pending_96 : decode y_M_pending.2.1 96 = .ok (.iaload, 1) := by decide +kernel
theorem d_M_pending_97 : decode y_M_pending.2.1 97 = .ok (.iaload, 1) := by decide +kernel
theorem d_M_pending_98 : decode y_M_pending.2.1 98 = .ok (.if_icmp .ge 21, 3) := by decide +kernel
theorem d_M_pending_101 : decode y_M_pending.2.1 101 = .ok (.aload_n 0, 1) := by decide +kernel
theorem d_M_pending_102 : decode y_M_pending.2.1 102 = .ok (.getfield 37, 3) := by decide +kernel
theorem d_M_pending_105 : decode y_M_pending.2.1 105 = .ok (.getfield 214, 3) := by decide +kernel
theorem d_M_pending_108 : decode y_M_pending.2.1 108 = .ok (.iconst 4, 1) := by decide +kernel
theorem d_M_pending_109 : decode y_M_pending.2.1 109 = .ok (.iload_n 1, 1) := by decide +kernel
theorem d_M_pending_110 : decode y_M_pending.2.1 110 = .ok (.imul, 1) := by decide +kernel
theorem d_M_pending_111 : decode y_M_pending.2.1 111 = .ok (.iload_n 2, 1) := by decide +kernel
theorem d_M_pending_112 : decode y_M_pending.2.1 112 = .ok (.iadd, 1) := by decide +kernel
theorem d_M_pending_113 : decode y_M_pending.2.1 113 = .ok (.iconst 3, 1) := by decide +kernel
theorem d_M_pending_114 : decode y_M_pending.2.1 114 = .ok (.isub, 1) := by decide +kernel
theorem d_M_pending_115 : decode y_M_pending.2.1 115 = .ok (.iaload, 1) := by decide +kernel
theorem d_M_pending_116 : decode y_M_pending.2.1 116 = .ok (.goto 4, 3) := by decide +kernel
theorem d_M_pending_119 : decode y_M_pending.2.1 119 = .ok (.iconst (-1), 1) := by decide +kernel
theorem d_M_pending_120 : decode y_M_pending.2.1 120 = .ok (.ireturn, 1) := by decide +kernel
def y_M_look : ab_Y := (⟨"WorldEngineModel", "look", "(I)I"⟩, prog_14_method_39_code, 2, (some FieldType.int), [])
theorem d_M_look_0 : decode y_M_look.2.1 0 = .ok (.aload_n 0, 1) := by decide +kernel
theorem d_M_look_1 : decode y_M_look.2.1 1 = .ok (.iconst 0, 1) := by decide +kernel
theorem d_M_look_2 : decode y_M_look.2.1 2 = .ok (.putfield 83, 3) := by decide +kernel
theorem d_M_look_5 : decode y_M_look.2.1 5 = .ok (.iload_n 1, 1) := by decide +kernel
theorem d_M_look_6 : decode y_M_look.2.1 6 = .ok (.tableswitch 177 0 14 #[74, 82, 90, 98, 106, 114, 122, 130, 138, 143, 148, 156, 162, 167, 172], 74) := by decide +kernel
theorem d_M_look_80 : decode y_M_look.2.1 80 = .ok (.aload_n 0, 1) := by decide +kernel
theorem d_M_look_81 : decode y_M_look.2.1 81 = .ok (.getfield 16, 3) := by decide +kernel
theorem d_M_look_84 : decode y_M_look.2.1 84 = .ok (.getfield 142, 3) := by decide +kernel
theorem d_M_look_87 : decode y_M_look.2.1 87 = .ok (.ireturn, 1) := by decide +kernel
theorem d_M_look_88 : decode y_M_look.2.1 88 = .ok (.aload_n 0, 1) := by decide +kernel
theorem d_M_look_89 : decode y_M_look.2.1 89 = .ok (.getfield 16, 3) := by decide +kernel
theorem d_M_look_92 : decode y_M_look.2.1 92 = .ok (.getfield 161, 3) := by decide +kernel
theorem d_M_look_95 : decode y_M_look.2.1 95 = .ok (.ireturn, 1) := by decide +kernel
theorem d_M_look_96 : decode y_M_look.2.1 96 = .ok (.aload_n 0, 1) := by decide +kernel
theorem d_M_look_97 : decode y_M_look.2.1 97 = .ok (.getfield 37, 3) := by decide +kernel
theorem d_M_look_100 : decode y_M_look.2.1 100 = .ok (.getfield 145, 3) := by decide +kernel
theorem d_M_look_103 : decode y_M_look.2.1 103 = .ok (.ireturn, 1) := by decide +kernel
theorem d_M_look_104 : decode y_M_look.2.1 104 = .ok (.aload_n 0, 1) := by decide +kernel
theorem d_M_look_105 : decode y_M_look.2.1 105 = .ok (.getfield 33, 3) := by decide +kernel
theorem d_M_look_108 : decode y_M_look.2.1 108 = .ok (.getfield 145, 3) := by decide +kernel
theorem d_M_look_111 : decode y_M_look.2.1 111 = .ok (.ireturn, 1) := by decide +kernel
theorem d_M_look_112 : decode y_M_look.2.1 112 = .ok (.aload_n 0, 1) := by decide +kernel
theorem d_M_look_113 : decode y_M_look.2.1 113 = .ok (.getfield 37, 3) := by decide +kernel
theorem d_M_look_116 : decode y_M_look.2.1 116 = .ok (.invokevirtual 313, 3) := by decide +kernel
theorem d_M_look_119 : decode y_M_look.2.1 119 = .ok (.ireturn, 1) := by decide +kernel
theorem d_M_look_120 : decode y_M_look.2.1 120 = .ok (.aload_n 0, 1) := by decide +kernel
theorem d_M_look_121 : decode y_M_look.2.1 121 = .ok (.getfield 37, 3) := by decide +kernel
theorem d_M_look_124 : decode y_M_look.2.1 124 = .ok (.getfield 195, 3) := by decide +kernel
theorem d_M_look_127 : decode y_M_look.2.1 127 = .ok (.ireturn, 1) := by decide +kernel
theorem d_M_look_128 : decode y_M_look.2.1 128 = .ok (.aload_n 0, 1) := by decide +kernel
theorem d_M_look_129 : decode y_M_look.2.1 129 = .ok (.getfield 37, 3) := by decide +kernel
theorem d_M_look_132 : decode y_M_look.2.1 132 = .ok (.getfield 317, 3) := by decide +kernel
theorem d_M_look_135 : decode y_M_look.2.1 135 = .ok (.ireturn, 1) := by decide +kernel
theorem d_M_look_136 : decode y_M_look.2.1 136 = .ok (.aload_n 0, 1) := by decide +kernel
theorem d_M_look_137 : decode y_M_look.2.1 137 = .ok (.getfield 37, 3) := by decide +kernel
theorem d_M_look_140 : decode y_M_look.2.1 140 = .ok (.getfield 320, 3) := by decide +kernel
theorem d_M_look_143 : decode y_M_look.2.1 143 = .ok (.ireturn, 1) := by decide +kernel
theorem d_M_look_144 : decode y_M_look.2.1 144 = .ok (.aload_n 0, 1) := by decide +kernel
theorem d_M_look_145 : decode y_M_look.2.1 145 = .ok (.getfield 136, 3) := by decide +kernel
theorem d_M_look_148 : decode y_M_look.2.1 148 = .ok (.ireturn, 1) := by decide +kernel
theorem d_M_look_149 : decode y_M_look.2.1 149 = .ok (.aload_n 0, 1) := by decide +kernel
theorem d_M_look_150 : decode y_M_look.2.1 150 = .ok (.getfield 323, 3) := by decide +kernel
theorem d_M_look_153 : decode y_M_look.2.1 153 = .ok (.ireturn, 1) := by decide +kernel
theorem d_M_look_154 : decode y_M_look.2.1 154 = .ok (.aload_n 0, 1) := by decide +kernel
theorem d_M_look_155 : decode y_M_look.2.1 155 = .ok (.getfield 16, 3) := by decide +kernel
theorem d_M_look_158 : decode y_M_look.2.1 158 = .ok (.invokevirtual 326, 3) := by decide +kernel
theorem d_M_look_161 : decode y_M_look.2.1 161 = .ok (.ireturn, 1) := by decide +kernel
theorem d_M_look_162 : decode y_M_look.2.1 162 = .ok (.aload_n 0, 1) := by decide +kernel
theorem d_M_look_163 : decode y_M_look.2.1 163 = .ok (.iconst 1, 1) := by decide +kernel
theorem d_M_look_164 : decode y_M_look.2.1 164 = .ok (.invokevirtual 247, 3) := by decide +kernel
theorem d_M_look_167 : decode y_M_look.2.1 167 = .ok (.ireturn, 1) := by decide +kernel
theorem d_M_look_168 : decode y_M_look.2.1 168 = .ok (.aload_n 0, 1) := by decide +kernel
theorem d_M_look_169 : decode y_M_look.2.1 169 = .ok (.getfield 139, 3) := by decide +kernel
theorem d_M_look_172 : decode y_M_look.2.1 172 = .ok (.ireturn, 1) := by decide +kernel
theorem d_M_look_173 : decode y_M_look.2.1 173 = .ok (.aload_n 0, 1) := by decide +kernel
theorem d_M_look_174 : decode y_M_look.2.1 174 = .ok (.getfield 96, 3) := by decide +kernel
theorem d_M_look_177 : decode y_M_look.2.1 177 = .ok (.ireturn, 1) := by decide +kernel
theorem d_M_look_178 : decode y_M_look.2.1 178 = .ok (.aload_n 0, 1) := by decide +kernel
theorem d_M_look_179 : decode y_M_look.2.1 179 = .ok (.getfield 50, 3) := by decide +kernel
theorem d_M_look_182 : decode y_M_look.2.1 182 = .ok (.ireturn, 1) := by decide +kernel
theorem d_M_look_183 : decode y_M_look.2.1 183 = .ok (.iconst (-1), 1) := by decide +kernel
theorem d_M_look_184 : decode y_M_look.2.1 184 = .ok (.ireturn, 1) := by decide +kernel
def y_M_fall : ab_Y := (⟨"WorldEngineModel", "fall", "(I)Z"⟩, prog_14_method_40_code, 2, (some FieldType.boolean), [])
theorem d_M_fall_0 : decode y_M_fall.2.1 0 = .ok (.aload_n 0, 1) := by decide +kernel
theorem d_M_fall_1 : decode y_M_fall.2.1 1 = .ok (.iconst 0, 1) := by decide +kernel
theorem d_M_fall_2 : decode y_M_fall.2.1 2 = .ok (.putfield 83, 3) := by decide +kernel
theorem d_M_fall_5 : decode y_M_fall.2.1 5 = .ok (.iload_n 1, 1) := by decide +kernel
theorem d_M_fall_6 : decode y_M_fall.2.1 6 = .ok (.i2l, 1) := by decide +kernel
theorem d_M_fall_7 : decode y_M_fall.2.1 7 = .ok (.lconst 0, 1) := by decide +kernel
theorem d_M_fall_8 : decode y_M_fall.2.1 8 = .ok (.ldc2_w 329, 3) := by decide +kernel
theorem d_M_fall_11 : decode y_M_fall.2.1 11 = .ok (.invokestatic 99, 3) := by decide +kernel
theorem d_M_fall_14 : decode y_M_fall.2.1 14 = .ok (.ifCond .eq 21, 3) := by decide +kernel
theorem d_M_fall_17 : decode y_M_fall.2.1 17 = .ok (.aload_n 0, 1) := by decide +kernel
theorem d_M_fall_18 : decode y_M_fall.2.1 18 = .ok (.getfield 77, 3) := by decide +kernel
theorem d_M_fall_21 : decode y_M_fall.2.1 21 = .ok (.iload_n 1, 1) := by decide +kernel
theorem d_M_fall_22 : decode y_M_fall.2.1 22 = .ok (.baload, 1) := by decide +kernel
theorem d_M_fall_23 : decode y_M_fall.2.1 23 = .ok (.ifCond .eq 12, 3) := by decide +kernel
theorem d_M_fall_26 : decode y_M_fall.2.1 26 = .ok (.aload_n 0, 1) := by decide +kernel
theorem d_M_fall_27 : decode y_M_fall.2.1 27 = .ok (.getfield 80, 3) := by decide +kernel
theorem d_M_fall_30 : decode y_M_fall.2.1 30 = .ok (.iload_n 1, 1) := by decide +kernel
theorem d_M_fall_31 : decode y_M_fall.2.1 31 = .ok (.baload, 1) := by decide +kernel
theorem d_M_fall_32 : decode y_M_fall.2.1 32 = .ok (.ifCond .eq 5, 3) := by decide +kernel
theorem d_M_fall_35 : decode y_M_fall.2.1 35 = .ok (.iconst 0, 1) := by decide +kernel
theorem d_M_fall_36 : decode y_M_fall.2.1 36 = .ok (.ireturn, 1) := by decide +kernel
theorem d_M_fall_37 : decode y_M_fall.2.1 37 = .ok (.aload_n 0, 1) := by decide +kernel
theorem d_M_fall_38 : decode y_M_fall.2.1 38 = .ok (.getfield 80, 3) := by decide +kernel
theorem d_M_fall_41 : decode y_M_fall.2.1 41 = .ok (.iload_n 1, 1) := by decide +kernel
theorem d_M_fall_42 : decode y_M_fall.2.1 42 = .ok (.iconst 1, 1) := by decide +kernel
theorem d_M_fall_43 : decode y_M_fall.2.1 43 = .ok (.bastore, 1) := by decide +kernel
theorem d_M_fall_44 : decode y_M_fall.2.1 44 = .ok (.iconst 1, 1) := by decide +kernel
theorem d_M_fall_45 : decode y_M_fall.2.1 45 = .ok (.ireturn, 1) := by decide +kernel
def y_M_stand : ab_Y := (⟨"WorldEngineModel", "stand", "(I)Z"⟩, prog_14_method_41_code, 2, (some FieldType.boolean), [])
theorem d_M_stand_0 : decode y_M_stand.2.1 0 = .ok (.aload_n 0, 1) := by decide +kernel
theorem d_M_stand_1 : decode y_M_stand.2.1 1 = .ok (.iconst 0, 1) := by decide +kernel
theorem d_M_stand_2 : decode y_M_stand.2.1 2 = .ok (.putfield 83, 3) := by decide +kernel
theorem d_M_stand_5 : decode y_M_stand.2.1 5 = .ok (.iload_n 1, 1) := by decide +kernel
theorem d_M_stand_6 : decode y_M_stand.2.1 6 = .ok (.i2l, 1) := by decide +kernel
theorem d_M_stand_7 : decode y_M_stand.2.1 7 = .ok (.lconst 0, 1) := by decide +kernel
theorem d_M_stand_8 : decode y_M_stand.2.1 8 = .ok (.ldc2_w 329, 3) := by decide +kernel
theorem d_M_stand_11 : decode y_M_stand.2.1 11 = .ok (.invokestatic 99, 3) := by decide +kernel
theorem d_M_stand_14 : decode y_M_stand.2.1 14 = .ok (.ifCond .eq 21, 3) := by decide +kernel
theorem d_M_stand_17 : decode y_M_stand.2.1 17 = .ok (.aload_n 0, 1) := by decide +kernel
theorem d_M_stand_18 : decode y_M_stand.2.1 18 = .ok (.getfield 77, 3) := by decide +kernel
theorem d_M_stand_21 : decode y_M_stand.2.1 21 = .ok (.iload_n 1, 1) := by decide +kernel
theorem d_M_stand_22 : decode y_M_stand.2.1 22 = .ok (.baload, 1) := by decide +kernel
theorem d_M_stand_23 : decode y_M_stand.2.1 23 = .ok (.ifCond .eq 14, 3) := by decide +kernel
theorem d_M_stand_26 : decode y_M_stand.2.1 26 = .ok (.aload_n 0, 1) := by decide +kernel
theorem d_M_stand_27 : decode y_M_stand.2.1 27 = .ok (.getfield 80, 3) := by decide +kernel
theorem d_M_stand_30 : decode y_M_stand.2.1 30 = .ok (.iload_n 1, 1) := by decide +kernel
theorem d_M_stand_31 : decode y_M_stand.2.1 31 = .ok (.baload, 1) := by decide +kernel
theorem d_M_stand_32 : decode y_M_stand.2.1 32 = .ok (.ifCond .ne 5, 3) := by decide +kernel
theorem d_M_stand_35 : decode y_M_stand.2.1 35 = .ok (.iconst 0, 1) := by decide +kernel
theorem d_M_stand_36 : decode y_M_stand.2.1 36 = .ok (.ireturn, 1) := by decide +kernel
theorem d_M_stand_37 : decode y_M_stand.2.1 37 = .ok (.aload_n 0, 1) := by decide +kernel
theorem d_M_stand_38 : decode y_M_stand.2.1 38 = .ok (.getfield 77, 3) := by decide +kernel
theorem d_M_stand_41 : decode y_M_stand.2.1 41 = .ok (.iload_n 1, 1) := by decide +kernel
theorem d_M_stand_42 : decode y_M_stand.2.1 42 = .ok (.iconst 1, 1) := by decide +kernel
theorem d_M_stand_43 : decode y_M_stand.2.1 43 = .ok (.bastore, 1) := by decide +kernel
theorem d_M_stand_44 : decode y_M_stand.2.1 44 = .ok (.aload_n 0, 1) := by decide +kernel
theorem d_M_stand_45 : decode y_M_stand.2.1 45 = .ok (.getfield 80, 3) := by decide +kernel
theorem d_M_stand_48 : decode y_M_stand.2.1 48 = .ok (.iload_n 1, 1) := by decide +kernel
theorem d_M_stand_49 : decode y_M_stand.2.1 49 = .ok (.iconst 0, 1) := by decide +kernel
theorem d_M_stand_50 : decode y_M_stand.2.1 50 = .ok (.bastore, 1) := by decide +kernel
theorem d_M_stand_51 : decode y_M_stand.2.1 51 = .ok (.iconst 1, 1) := by decide +kernel
theorem d_M_stand_52 : decode y_M_stand.2.1 52 = .ok (.ireturn, 1) := by decide +kernel
def y_M_pace : ab_Y := (⟨"WorldEngineModel", "pace", "(I)V"⟩, prog_14_method_42_code, 2, none, [])
theorem d_M_pace_0 : decode y_M_pace.2.1 0 = .ok (.aload_n 0, 1) := by decide +kernel
theorem d_M_pace_1 : decode y_M_pace.2.1 1 = .ok (.iconst 0, 1) := by decide +kernel
theorem d_M_pace_2 : decode y_M_pace.2.1 2 = .ok (.putfield 83, 3) := by decide +kernel
theorem d_M_pace_5 : decode y_M_pace.2.1 5 = .ok (.return_, 1) := by decide +kernel
def y_M_sum : ab_Y := (⟨"WorldEngineModel", "sum", "()I"⟩, prog_14_method_45_code, 1, (some FieldType.int), [])
theorem d_M_sum_0 : decode y_M_sum.2.1 0 = .ok (.aload_n 0, 1) := by decide +kernel
theorem d_M_sum_1 : decode y_M_sum.2.1 1 = .ok (.iconst 0, 1) := by decide +kernel
theorem d_M_sum_2 : decode y_M_sum.2.1 2 = .ok (.putfield 83, 3) := by decide +kernel
theorem d_M_sum_5 : decode y_M_sum.2.1 5 = .ok (.aload_n 0, 1) := by decide +kernel
theorem d_M_sum_6 : decode y_M_sum.2.1 6 = .ok (.iconst 1, 1) := by decide +kernel
theorem d_M_sum_7 : decode y_M_sum.2.1 7 = .ok (.putfield 331, 3) := by decide +kernel
theorem d_M_sum_10 : decode y_M_sum.2.1 10 = .ok (.aload_n 0, 1) := by decide +kernel
theorem d_M_sum_11 : decode y_M_sum.2.1 11 = .ok (.iconst 0, 1) := by decide +kernel
theorem d_M_sum_12 : decode y_M_sum.2.1 12 = .ok (.putfield 334, 3) := by decide +kernel
theorem d_M_sum_15 : decode y_M_sum.2.1 15 = .ok (.aload_n 0, 1) := by decide +kernel
theorem d_M_sum_16 : decode y_M_sum.2.1 16 = .ok (.invokevirtual 350, 3) := by decide +kernel
theorem d_M_sum_19 : decode y_M_sum.2.1 19 = .ok (.aload_n 0, 1) := by decide +kernel
theorem d_M_sum_20 : decode y_M_sum.2.1 20 = .ok (.iconst 0, 1) := by decide +kernel
theorem d_M_sum_21 : decode y_M_sum.2.1 21 = .ok (.putfield 331, 3) := by decide +kernel
theorem d_M_sum_24 : decode y_M_sum.2.1 24 = .ok (.aload_n 0, 1) := by decide +kernel
theorem d_M_sum_25 : decode y_M_sum.2.1 25 = .ok (.getfield 334, 3) := by decide +kernel
theorem d_M_sum_28 : decode y_M_sum.2.1 28 = .ok (.ireturn, 1) := by decide +kernel
def y_M_putsWorld : ab_Y := (⟨"WorldEngineModel", "putsWorld", "()V"⟩, prog_14_method_44_code, 4, none, [])
theorem d_M_putsWorld_0 : decode y_M_putsWorld.2.1 0 = .ok (.aload_n 0, 1) := by decide +kernel
theorem d_M_putsWorld_1 : decode y_M_putsWorld.2.1 1 = .ok (.bipush 87, 2) := by decide +kernel
theorem d_M_putsWorld_3 : decode y_M_putsWorld.2.1 3 = .ok (.iconst 1, 1) := by decide +kernel
theorem d_M_putsWorld_4 : decode y_M_putsWorld.2.1 4 = .ok (.invokevirtual 337, 3) := by decide +kernel
theorem d_M_putsWorld_7 : decode y_M_putsWorld.2.1 7 = .ok (.aload_n 0, 1) := by decide +kernel
theorem d_M_putsWorld_8 : decode y_M_putsWorld.2.1 8 = .ok (.bipush 69, 2) := by decide +kernel
theorem d_M_putsWorld_10 : decode y_M_putsWorld.2.1 10 = .ok (.iconst 1, 1) := by decide +kernel
theorem d_M_putsWorld_11 : decode y_M_putsWorld.2.1 11 = .ok (.invokevirtual 337, 3) := by decide +kernel
theorem d_M_putsWorld_14 : decode y_M_putsWorld.2.1 14 = .ok (.aload_n 0, 1) := by decide +kernel
theorem d_M_putsWorld_15 : decode y_M_putsWorld.2.1 15 = .ok (.aload_n 0, 1) := by decide +kernel
theorem d_M_putsWorld_16 : decode y_M_putsWorld.2.1 16 = .ok (.getfield 16, 3) := by decide +kernel
theorem d_M_putsWorld_19 : decode y_M_putsWorld.2.1 19 = .ok (.getfield 161, 3) := by decide +kernel
theorem d_M_putsWorld_22 : decode y_M_putsWorld.2.1 22 = .ok (.iconst 1, 1) := by decide +kernel
theorem d_M_putsWorld_23 : decode y_M_putsWorld.2.1 23 = .ok (.invokevirtual 337, 3) := by decide +kernel
theorem d_M_putsWorld_26 : decode y_M_putsWorld.2.1 26 = .ok (.iconst 0, 1) := by decide +kernel
theorem d_M_putsWorld_27 : decode y_M_putsWorld.2.1 27 = .ok (.istore_n 1, 1) := by decide +kernel
theorem d_M_putsWorld_28 : decode y_M_putsWorld.2.1 28 = .ok (.iload_n 1, 1) := by decide +kernel
theorem d_M_putsWorld_29 : decode y_M_putsWorld.2.1 29 = .ok (.aload_n 0, 1) := by decide +kernel
theorem d_M_putsWorld_30 : decode y_M_putsWorld.2.1 30 = .ok (.getfield 16, 3) := by decide +kernel
theorem d_M_putsWorld_33 : decode y_M_putsWorld.2.1 33 = .ok (.getfield 161, 3) := by decide +kernel
theorem d_M_putsWorld_36 : decode y_M_putsWorld.2.1 36 = .ok (.if_icmp .ge 80, 3) := by decide +kernel
theorem d_M_putsWorld_39 : decode y_M_putsWorld.2.1 39 = .ok (.aload_n 0, 1) := by decide +kernel
theorem d_M_putsWorld_40 : decode y_M_putsWorld.2.1 40 = .ok (.aload_n 0, 1) := by decide +kernel
theorem d_M_putsWorld_41 : decode y_M_putsWorld.2.1 41 = .ok (.getfield 16, 3) := by decide +kernel
theorem d_M_putsWorld_44 : decode y_M_putsWorld.2.1 44 = .ok (.getfield 171, 3) := by decide +kernel
theorem d_M_putsWorld_47 : decode y_M_putsWorld.2.1 47 = .ok (.iload_n 1, 1) := by decide +kernel
theorem d_M_putsWorld_48 : decode y_M_putsWorld.2.1 48 = .ok (.iconst 1, 1) := by decide +kernel
theorem d_M_putsWorld_49 : decode y_M_putsWorld.2.1 49 = .ok (.iadd, 1) := by decide +kernel
theorem d_M_putsWorld_50 : decode y_M_putsWorld.2.1 50 = .ok (.iaload, 1) := by decide +kernel
theorem d_M_putsWorld_51 : decode y_M_putsWorld.2.1 51 = .ok (.aload_n 0, 1) := by decide +kernel
theorem d_M_putsWorld_52 : decode y_M_putsWorld.2.1 52 = .ok (.getfield 16, 3) := by decide +kernel
theorem d_M_putsWorld_55 : decode y_M_putsWorld.2.1 55 = .ok (.getfield 171, 3) := by decide +kernel
theorem d_M_putsWorld_58 : decode y_M_putsWorld.2.1 58 = .ok (.iload_n 1, 1) := by decide +kernel
theorem d_M_putsWorld_59 : decode y_M_putsWorld.2.1 59 = .ok (.iaload, 1) := by decide +kernel
theorem d_M_putsWorld_60 : decode y_M_putsWorld.2.1 60 = .ok (.isub, 1) := by decide +kernel
theorem d_M_putsWorld_61 : decode y_M_putsWorld.2.1 61 = .ok (.iconst 1, 1) := by decide +kernel
theorem d_M_putsWorld_62 : decode y_M_putsWorld.2.1 62 = .ok (.invokevirtual 337, 3) := by decide +kernel
theorem d_M_putsWorld_65 : decode y_M_putsWorld.2.1 65 = .ok (.aload_n 0, 1) := by decide +kernel
theorem d_M_putsWorld_66 : decode y_M_putsWorld.2.1 66 = .ok (.getfield 16, 3) := by decide +kernel
theorem d_M_putsWorld_69 : decode y_M_putsWorld.2.1 69 = .ok (.getfield 171, 3) := by decide +kernel
theorem d_M_putsWorld_72 : decode y_M_putsWorld.2.1 72 = .ok (.iload_n 1, 1) := by decide +kernel
theorem d_M_putsWorld_73 : decode y_M_putsWorld.2.1 73 = .ok (.iaload, 1) := by decide +kernel
theorem d_M_putsWorld_74 : decode y_M_putsWorld.2.1 74 = .ok (.istore_n 2, 1) := by decide +kernel
theorem d_M_putsWorld_75 : decode y_M_putsWorld.2.1 75 = .ok (.iload_n 2, 1) := by decide +kernel
theorem d_M_putsWorld_76 : decode y_M_putsWorld.2.1 76 = .ok (.aload_n 0, 1) := by decide +kernel
theorem d_M_putsWorld_77 : decode y_M_putsWorld.2.1 77 = .ok (.getfield 16, 3) := by decide +kernel
theorem d_M_putsWorld_80 : decode y_M_putsWorld.2.1 80 = .ok (.getfield 171, 3) := by decide +kernel
theorem d_M_putsWorld_83 : decode y_M_putsWorld.2.1 83 = .ok (.iload_n 1, 1) := by decide +kernel
theorem d_M_putsWorld_84 : decode y_M_putsWorld.2.1 84 = .ok (.iconst 1, 1) := by decide +kernel
theorem d_M_putsWorld_85 : decode y_M_putsWorld.2.1 85 = .ok (.iadd, 1) := by decide +kernel
theorem d_M_putsWorld_86 : decode y_M_putsWorld.2.1 86 = .ok (.iaload, 1) := by decide +kernel
theorem d_M_putsWorld_87 : decode y_M_putsWorld.2.1 87 = .ok (.if_icmp .ge 23, 3) := by decide +kernel
theorem d_M_putsWorld_90 : decode y_M_putsWorld.2.1 90 = .ok (.aload_n 0, 1) := by decide +kernel
theorem d_M_putsWorld_91 : decode y_M_putsWorld.2.1 91 = .ok (.aload_n 0, 1) := by decide +kernel
theorem d_M_putsWorld_92 : decode y_M_putsWorld.2.1 92 = .ok (.getfield 16, 3) := by decide +kernel
theorem d_M_putsWorld_95 : decode y_M_putsWorld.2.1 95 = .ok (.getfield 184, 3) := by decide +kernel
theorem d_M_putsWorld_98 : decode y_M_putsWorld.2.1 98 = .ok (.iload_n 2, 1) := by decide +kernel
theorem d_M_putsWorld_99 : decode y_M_putsWorld.2.1 99 = .ok (.iaload, 1) := by decide +kernel
theorem d_M_putsWorld_100 : decode y_M_putsWorld.2.1 100 = .ok (.iconst 1, 1) := by decide +kernel
theorem d_M_putsWorld_101 : decode y_M_putsWorld.2.1 101 = .ok (.invokevirtual 337, 3) := by decide +kernel
theorem d_M_putsWorld_104 : decode y_M_putsWorld.2.1 104 = .ok (.iinc 2 1, 3) := by decide +kernel
theorem d_M_putsWorld_107 : decode y_M_putsWorld.2.1 107 = .ok (.goto (-32), 3) := by decide +kernel
theorem d_M_putsWorld_110 : decode y_M_putsWorld.2.1 110 = .ok (.iinc 1 1, 3) := by decide +kernel
theorem d_M_putsWorld_113 : decode y_M_putsWorld.2.1 113 = .ok (.goto (-85), 3) := by decide +kernel
theorem d_M_putsWorld_116 : decode y_M_putsWorld.2.1 116 = .ok (.aload_n 0, 1) := by decide +kernel
theorem d_M_putsWorld_117 : decode y_M_putsWorld.2.1 117 = .ok (.aload_n 0, 1) := by decide +kernel
theorem d_M_putsWorld_118 : decode y_M_putsWorld.2.1 118 = .ok (.getfield 16, 3) := by decide +kernel
theorem d_M_putsWorld_121 : decode y_M_putsWorld.2.1 121 = .ok (.getfield 341, 3) := by decide +kernel
theorem d_M_putsWorld_124 : decode y_M_putsWorld.2.1 124 = .ok (.iconst 1, 1) := by decide +kernel
theorem d_M_putsWorld_125 : decode y_M_putsWorld.2.1 125 = .ok (.invokevirtual 337, 3) := by decide +kernel
theorem d_M_putsWorld_128 : decode y_M_putsWorld.2.1 128 = .ok (.iconst 0, 1) := by decide +kernel
theorem d_M_putsWorld_129 : decode y_M_putsWorld.2.1 129 = .ok (.istore_n 1, 1) := by decide +kernel
theorem d_M_putsWorld_130 : decode y_M_putsWorld.2.1 130 = .ok (.iload_n 1, 1) := by decide +kernel
theorem d_M_putsWorld_131 : decode y_M_putsWorld.2.1 131 = .ok (.aload_n 0, 1) := by decide +kernel
theorem d_M_putsWorld_132 : decode y_M_putsWorld.2.1 132 = .ok (.getfield 16, 3) := by decide +kernel
theorem d_M_putsWorld_135 : decode y_M_putsWorld.2.1 135 = .ok (.getfield 341, 3) := by decide +kernel
theorem d_M_putsWorld_138 : decode y_M_putsWorld.2.1 138 = .ok (.if_icmp .ge 62, 3) := by decide +kernel
theorem d_M_putsWorld_141 : decode y_M_putsWorld.2.1 141 = .ok (.aload_n 0, 1) := by decide +kernel
theorem d_M_putsWorld_142 : decode y_M_putsWorld.2.1 142 = .ok (.aload_n 0, 1) := by decide +kernel
theorem d_M_putsWorld_143 : decode y_M_putsWorld.2.1 143 = .ok (.getfield 16, 3) := by decide +kernel
theorem d_M_putsWorld_146 : decode y_M_putsWorld.2.1 146 = .ok (.getfield 310, 3) := by decide +kernel
theorem d_M_putsWorld_149 : decode y_M_putsWorld.2.1 149 = .ok (.iload_n 1, 1) := by decide +kernel
theorem d_M_putsWorld_150 : decode y_M_putsWorld.2.1 150 = .ok (.iaload, 1) := by decide +kernel
theorem d_M_putsWorld_151 : decode y_M_putsWorld.2.1 151 = .ok (.iconst 1, 1) := by decide +kernel
theorem d_M_putsWorld_152 : decode y_M_putsWorld.2.1 152 = .ok (.invokevirtual 337, 3) := by decide +kernel
theorem d_M_putsWorld_155 : decode y_M_putsWorld.2.1 155 = .ok (.iconst 0, 1) := by decide +kernel
theorem d_M_putsWorld_156 : decode y_M_putsWorld.2.1 156 = .ok (.istore_n 2, 1) := by decide +kernel
theorem d_M_putsWorld_157 : decode y_M_putsWorld.2.1 157 = .ok (.iload_n 2, 1) := by decide +kernel
theorem d_M_putsWorld_158 : decode y_M_putsWorld.2.1 158 = .ok (.aload_n 0, 1) := by decide +kernel
theorem d_M_putsWorld_159 : decode y_M_putsWorld.2.1 159 = .ok (.getfield 16, 3) := by decide +kernel
theorem d_M_putsWorld_162 : decode y_M_putsWorld.2.1 162 = .ok (.getfield 310, 3) := by decide +kernel
theorem d_M_putsWorld_165 : decode y_M_putsWorld.2.1 165 = .ok (.iload_n 1, 1) := by decide +kernel
theorem d_M_putsWorld_166 : decode y_M_putsWorld.2.1 166 = .ok (.iaload, 1) := by decide +kernel
theorem d_M_putsWorld_167 : decode y_M_putsWorld.2.1 167 = .ok (.if_icmp .ge 27, 3) := by decide +kernel
theorem d_M_putsWorld_170 : decode y_M_putsWorld.2.1 170 = .ok (.aload_n 0, 1) := by decide +kernel
theorem d_M_putsWorld_171 : decode y_M_putsWorld.2.1 171 = .ok (.aload_n 0, 1) := by decide +kernel
theorem d_M_putsWorld_172 : decode y_M_putsWorld.2.1 172 = .ok (.getfield 16, 3) := by decide +kernel
theorem d_M_putsWorld_175 : decode y_M_putsWorld.2.1 175 = .ok (.getfield 344, 3) := by decide +kernel
theorem d_M_putsWorld_178 : decode y_M_putsWorld.2.1 178 = .ok (.iconst 4, 1) := by decide +kernel
theorem d_M_putsWorld_179 : decode y_M_putsWorld.2.1 179 = .ok (.iload_n 1, 1) := by decide +kernel
theorem d_M_putsWorld_180 : decode y_M_putsWorld.2.1 180 = .ok (.imul, 1) := by decide +kernel
theorem d_M_putsWorld_181 : decode y_M_putsWorld.2.1 181 = .ok (.iload_n 2, 1) := by decide +kernel
theorem d_M_putsWorld_182 : decode y_M_putsWorld.2.1 182 = .ok (.iadd, 1) := by decide +kernel
theorem d_M_putsWorld_183 : decode y_M_putsWorld.2.1 183 = .ok (.iaload, 1) := by decide +kernel
theorem d_M_putsWorld_184 : decode y_M_putsWorld.2.1 184 = .ok (.iconst 1, 1) := by decide +kernel
theorem d_M_putsWorld_185 : decode y_M_putsWorld.2.1 185 = .ok (.invokevirtual 337, 3) := by decide +kernel
theorem d_M_putsWorld_188 : decode y_M_putsWorld.2.1 188 = .ok (.iinc 2 1, 3) := by decide +kernel
theorem d_M_putsWorld_191 : decode y_M_putsWorld.2.1 191 = .ok (.goto (-34), 3) := by decide +kernel
theorem d_M_putsWorld_194 : decode y_M_putsWorld.2.1 194 = .ok (.iinc 1 1, 3) := by decide +kernel
theorem d_M_putsWorld_197 : decode y_M_putsWorld.2.1 197 = .ok (.goto (-67), 3) := by decide +kernel
theorem d_M_putsWorld_200 : decode y_M_putsWorld.2.1 200 = .ok (.aload_n 0, 1) := by decide +kernel
theorem d_M_putsWorld_201 : decode y_M_putsWorld.2.1 201 = .ok (.aload_n 0, 1) := by decide +kernel
theorem d_M_putsWorld_202 : decode y_M_putsWorld.2.1 202 = .ok (.getfield 37, 3) := by decide +kernel
theorem d_M_putsWorld_205 : decode y_M_putsWorld.2.1 205 = .ok (.getfield 145, 3) := by decide +kernel
theorem d_M_putsWorld_208 : decode y_M_putsWorld.2.1 208 = .ok (.iconst 4, 1) := by decide +kernel
theorem d_M_putsWorld_209 : decode y_M_putsWorld.2.1 209 = .ok (.invokevirtual 337, 3) := by decide +kernel
theorem d_M_putsWorld_212 : decode y_M_putsWorld.2.1 212 = .ok (.aload_n 0, 1) := by decide +kernel
theorem d_M_putsWorld_213 : decode y_M_putsWorld.2.1 213 = .ok (.aload_n 0, 1) := by decide +kernel
theorem d_M_putsWorld_214 : decode y_M_putsWorld.2.1 214 = .ok (.getfield 37, 3) := by decide +kernel
theorem d_M_putsWorld_217 : decode y_M_putsWorld.2.1 217 = .ok (.getfield 126, 3) := by decide +kernel
theorem d_M_putsWorld_220 : decode y_M_putsWorld.2.1 220 = .ok (.iconst 4, 1) := by decide +kernel
theorem d_M_putsWorld_221 : decode y_M_putsWorld.2.1 221 = .ok (.invokevirtual 337, 3) := by decide +kernel
theorem d_M_putsWorld_224 : decode y_M_putsWorld.2.1 224 = .ok (.aload_n 0, 1) := by decide +kernel
theorem d_M_putsWorld_225 : decode y_M_putsWorld.2.1 225 = .ok (.aload_n 0, 1) := by decide +kernel
theorem d_M_putsWorld_226 : decode y_M_putsWorld.2.1 226 = .ok (.getfield 37, 3) := by decide +kernel
theorem d_M_putsWorld_229 : decode y_M_putsWorld.2.1 229 = .ok (.getfield 317, 3) := by decide +kernel
theorem d_M_putsWorld_232 : decode y_M_putsWorld.2.1 232 = .ok (.iconst 4, 1) := by decide +kernel
theorem d_M_putsWorld_233 : decode y_M_putsWorld.2.1 233 = .ok (.invokevirtual 337, 3) := by decide +kernel
theorem d_M_putsWorld_236 : decode y_M_putsWorld.2.1 236 = .ok (.aload_n 0, 1) := by decide +kernel
theorem d_M_putsWorld_237 : decode y_M_putsWorld.2.1 237 = .ok (.aload_n 0, 1) := by decide +kernel
theorem d_M_putsWorld_238 : decode y_M_putsWorld.2.1 238 = .ok (.getfield 37, 3) := by decide +kernel
theorem d_M_putsWorld_241 : decode y_M_putsWorld.2.1 241 = .ok (.getfield 320, 3) := by decide +kernel
theorem d_M_putsWorld_244 : decode y_M_putsWorld.2.1 244 = .ok (.iconst 4, 1) := by decide +kernel
theorem d_M_putsWorld_245 : decode y_M_putsWorld.2.1 245 = .ok (.invokevirtual 337, 3) := by decide +kernel
theorem d_M_putsWorld_248 : decode y_M_putsWorld.2.1 248 = .ok (.iconst 0, 1) := by decide +kernel
theorem d_M_putsWorld_249 : decode y_M_putsWorld.2.1 249 = .ok (.istore_n 1, 1) := by decide +kernel
theorem d_M_putsWorld_250 : decode y_M_putsWorld.2.1 250 = .ok (.iload_n 1, 1) := by decide +kernel
theorem d_M_putsWorld_251 : decode y_M_putsWorld.2.1 251 = .ok (.sipush 256, 3) := by decide +kernel
theorem d_M_putsWorld_254 : decode y_M_putsWorld.2.1 254 = .ok (.if_icmp .ge 160, 3) := by decide +kernel
theorem d_M_putsWorld_257 : decode y_M_putsWorld.2.1 257 = .ok (.aload_n 0, 1) := by decide +kernel
theorem d_M_putsWorld_258 : decode y_M_putsWorld.2.1 258 = .ok (.aload_n 0, 1) := by decide +kernel
theorem d_M_putsWorld_259 : decode y_M_putsWorld.2.1 259 = .ok (.getfield 37, 3) := by decide +kernel
theorem d_M_putsWorld_262 : decode y_M_putsWorld.2.1 262 = .ok (.getfield 347, 3) := by decide +kernel
theorem d_M_putsWorld_265 : decode y_M_putsWorld.2.1 265 = .ok (.iload_n 1, 1) := by decide +kernel
theorem d_M_putsWorld_266 : decode y_M_putsWorld.2.1 266 = .ok (.iaload, 1) := by decide +kernel
theorem d_M_putsWorld_267 : decode y_M_putsWorld.2.1 267 = .ok (.iconst 4, 1) := by decide +kernel
theorem d_M_putsWorld_268 : decode y_M_putsWorld.2.1 268 = .ok (.invokevirtual 337, 3) := by decide +kernel
theorem d_M_putsWorld_271 : decode y_M_putsWorld.2.1 271 = .ok (.aload_n 0, 1) := by decide +kernel
theorem d_M_putsWorld_272 : decode y_M_putsWorld.2.1 272 = .ok (.aload_n 0, 1) := by decide +kernel
theorem d_M_putsWorld_273 : decode y_M_putsWorld.2.1 273 = .ok (.getfield 37, 3) := by decide +kernel
theorem d_M_putsWorld_276 : decode y_M_putsWorld.2.1 276 = .ok (.getfield 158, 3) := by decide +kernel
theorem d_M_putsWorld_279 : decode y_M_putsWorld.2.1 279 = .ok (.iload_n 1, 1) := by decide +kernel
theorem d_M_putsWorld_280 : decode y_M_putsWorld.2.1 280 = .ok (.baload, 1) := by decide +kernel
theorem d_M_putsWorld_281 : decode y_M_putsWorld.2.1 281 = .ok (.ifCond .eq 7, 3) := by decide +kernel
theorem d_M_putsWorld_284 : decode y_M_putsWorld.2.1 284 = .ok (.iconst 1, 1) := by decide +kernel
theorem d_M_putsWorld_285 : decode y_M_putsWorld.2.1 285 = .ok (.goto 4, 3) := by decide +kernel
theorem d_M_putsWorld_288 : decode y_M_putsWorld.2.1 288 = .ok (.iconst 0, 1) := by decide +kernel
theorem d_M_putsWorld_289 : decode y_M_putsWorld.2.1 289 = .ok (.iconst 1, 1) := by decide +kernel
theorem d_M_putsWorld_290 : decode y_M_putsWorld.2.1 290 = .ok (.invokevirtual 337, 3) := by decide +kernel
theorem d_M_putsWorld_293 : decode y_M_putsWorld.2.1 293 = .ok (.aload_n 0, 1) := by decide +kernel
theorem d_M_putsWorld_294 : decode y_M_putsWorld.2.1 294 = .ok (.getfield 37, 3) := by decide +kernel
theorem d_M_putsWorld_297 : decode y_M_putsWorld.2.1 297 = .ok (.getfield 158, 3) := by decide +kernel
theorem d_M_putsWorld_300 : decode y_M_putsWorld.2.1 300 = .ok (.iload_n 1, 1) := by decide +kernel
theorem d_M_putsWorld_301 : decode y_M_putsWorld.2.1 301 = .ok (.baload, 1) := by decide +kernel
theorem d_M_putsWorld_302 : decode y_M_putsWorld.2.1 302 = .ok (.ifCond .ne 6, 3) := by decide +kernel
theorem d_M_putsWorld_305 : decode y_M_putsWorld.2.1 305 = .ok (.goto 103, 3) := by decide +kernel
theorem d_M_putsWorld_308 : decode y_M_putsWorld.2.1 308 = .ok (.aload_n 0, 1) := by decide +kernel
theorem d_M_putsWorld_309 : decode y_M_putsWorld.2.1 309 = .ok (.aload_n 0, 1) := by decide +kernel
theorem d_M_putsWorld_310 : decode y_M_putsWorld.2.1 310 = .ok (.getfield 37, 3) := by decide +kernel
theorem d_M_putsWorld_313 : decode y_M_putsWorld.2.1 313 = .ok (.getfield 157, 3) := by decide +kernel
theorem d_M_putsWorld_316 : decode y_M_putsWorld.2.1 316 = .ok (.iload_n 1, 1) := by decide +kernel
theorem d_M_putsWorld_317 : decode y_M_putsWorld.2.1 317 = .ok (.iaload, 1) := by decide +kernel
theorem d_M_putsWorld_318 : decode y_M_putsWorld.2.1 318 = .ok (.iconst 2, 1) := by decide +kernel
theorem d_M_putsWorld_319 : decode y_M_putsWorld.2.1 319 = .ok (.invokevirtual 337, 3) := by decide +kernel
theorem d_M_putsWorld_322 : decode y_M_putsWorld.2.1 322 = .ok (.iconst 0, 1) := by decide +kernel
theorem d_M_putsWorld_323 : decode y_M_putsWorld.2.1 323 = .ok (.istore_n 2, 1) := by decide +kernel
theorem d_M_putsWorld_324 : decode y_M_putsWorld.2.1 324 = .ok (.iload_n 2, 1) := by decide +kernel
theorem d_M_putsWorld_325 : decode y_M_putsWorld.2.1 325 = .ok (.aload_n 0, 1) := by decide +kernel
theorem d_M_putsWorld_326 : decode y_M_putsWorld.2.1 326 = .ok (.getfield 16, 3) := by decide +kernel
theorem d_M_putsWorld_329 : decode y_M_putsWorld.2.1 329 = .ok (.getfield 161, 3) := by decide +kernel
theorem d_M_putsWorld_332 : decode y_M_putsWorld.2.1 332 = .ok (.if_icmp .ge 76, 3) := by decide +kernel
theorem d_M_putsWorld_335 : decode y_M_putsWorld.2.1 335 = .ok (.aload_n 0, 1) := by decide +kernel
theorem d_M_putsWorld_336 : decode y_M_putsWorld.2.1 336 = .ok (.getfield 16, 3) := by decide +kernel
theorem d_M_putsWorld_339 : decode y_M_putsWorld.2.1 339 = .ok (.getfield 171, 3) := by decide +kernel
theorem d_M_putsWorld_342 : decode y_M_putsWorld.2.1 342 = .ok (.iload_n 2, 1) := by decide +kernel
theorem d_M_putsWorld_343 : decode y_M_putsWorld.2.1 343 = .ok (.iaload, 1) := by decide +kernel
theorem d_M_putsWorld_344 : decode y_M_putsWorld.2.1 344 = .ok (.istore_n 3, 1) := by decide +kernel
theorem d_M_putsWorld_345 : decode y_M_putsWorld.2.1 345 = .ok (.iload_n 3, 1) := by decide +kernel
theorem d_M_putsWorld_346 : decode y_M_putsWorld.2.1 346 = .ok (.aload_n 0, 1) := by decide +kernel
theorem d_M_putsWorld_347 : decode y_M_putsWorld.2.1 347 = .ok (.getfield 16, 3) := by decide +kernel
theorem d_M_putsWorld_350 : decode y_M_putsWorld.2.1 350 = .ok (.getfield 171, 3) := by decide +kernel
theorem d_M_putsWorld_353 : decode y_M_putsWorld.2.1 353 = .ok (.iload_n 2, 1) := by decide +kernel
theorem d_M_putsWorld_354 : decode y_M_putsWorld.2.1 354 = .ok (.iconst 1, 1) := by decide +kernel
theorem d_M_putsWorld_355 : decode y_M_putsWorld.2.1 355 = .ok (.iadd, 1) := by decide +kernel
theorem d_M_putsWorld_356 : decode y_M_putsWorld.2.1 356 = .ok (.iaload, 1) := by decide +kernel
theorem d_M_putsWorld_357 : decode y_M_putsWorld.2.1 357 = .ok (.if_icmp .ge 45, 3) := by decide +kernel
theorem d_M_putsWorld_360 : decode y_M_putsWorld.2.1 360 = .ok (.aload_n 0, 1) := by decide +kernel
theorem d_M_putsWorld_361 : decode y_M_putsWorld.2.1 361 = .ok (.getfield 37, 3) := by decide +kernel
theorem d_M_putsWorld_364 : decode y_M_putsWorld.2.1 364 = .ok (.getfield 157, 3) := by decide +kernel
theorem d_M_putsWorld_367 : decode y_M_putsWorld.2.1 367 = .ok (.iload_n 1, 1) := by decide +kernel
theorem d_M_putsWorld_368 : decode y_M_putsWorld.2.1 368 = .ok (.iaload, 1) := by decide +kernel
theorem d_M_putsWorld_369 : decode y_M_putsWorld.2.1 369 = .ok (.iload_n 2, 1) := by decide +kernel
theorem d_M_putsWorld_370 : decode y_M_putsWorld.2.1 370 = .ok (.ishr, 1) := by decide +kernel
theorem d_M_putsWorld_371 : decode y_M_putsWorld.2.1 371 = .ok (.iconst 1, 1) := by decide +kernel
theorem d_M_putsWorld_372 : decode y_M_putsWorld.2.1 372 = .ok (.iand, 1) := by decide +kernel
theorem d_M_putsWorld_373 : decode y_M_putsWorld.2.1 373 = .ok (.iconst 1, 1) := by decide +kernel
theorem d_M_putsWorld_374 : decode y_M_putsWorld.2.1 374 = .ok (.if_icmp .ne 28, 3) := by decide +kernel
theorem d_M_putsWorld_377 : decode y_M_putsWorld.2.1 377 = .ok (.aload_n 0, 1) := by decide +kernel
theorem d_M_putsWorld_378 : decode y_M_putsWorld.2.1 378 = .ok (.aload_n 0, 1) := by decide +kernel
theorem d_M_putsWorld_379 : decode y_M_putsWorld.2.1 379 = .ok (.getfield 37, 3) := by decide +kernel
theorem d_M_putsWorld_382 : decode y_M_putsWorld.2.1 382 = .ok (.getfield 181, 3) := by decide +kernel
theorem d_M_putsWorld_385 : decode y_M_putsWorld.2.1 385 = .ok (.bipush 48, 2) := by decide +kernel
theorem d_M_putsWorld_387 : decode y_M_putsWorld.2.1 387 = .ok (.iload_n 1, 1) := by decide +kernel
theorem d_M_putsWorld_388 : decode y_M_putsWorld.2.1 388 = .ok (.imul, 1) := by decide +kernel
theorem d_M_putsWorld_389 : decode y_M_putsWorld.2.1 389 = .ok (.iload_n 3, 1) := by decide +kernel
theorem d_M_putsWorld_390 : decode y_M_putsWorld.2.1 390 = .ok (.iadd, 1) := by decide +kernel
theorem d_M_putsWorld_391 : decode y_M_putsWorld.2.1 391 = .ok (.iaload, 1) := by decide +kernel
theorem d_M_putsWorld_392 : decode y_M_putsWorld.2.1 392 = .ok (.iconst 4, 1) := by decide +kernel
theorem d_M_putsWorld_393 : decode y_M_putsWorld.2.1 393 = .ok (.invokevirtual 337, 3) := by decide +kernel
theorem d_M_putsWorld_396 : decode y_M_putsWorld.2.1 396 = .ok (.iinc 3 1, 3) := by decide +kernel
theorem d_M_putsWorld_399 : decode y_M_putsWorld.2.1 399 = .ok (.goto (-54), 3) := by decide +kernel
theorem d_M_putsWorld_402 : decode y_M_putsWorld.2.1 402 = .ok (.iinc 2 1, 3) := by decide +kernel
theorem d_M_putsWorld_405 : decode y_M_putsWorld.2.1 405 = .ok (.goto (-81), 3) := by decide +kernel
theorem d_M_putsWorld_408 : decode y_M_putsWorld.2.1 408 = .ok (.iinc 1 1, 3) := by decide +kernel
theorem d_M_putsWorld_411 : decode y_M_putsWorld.2.1 411 = .ok (.goto (-161), 3) := by decide +kernel
theorem d_M_putsWorld_414 : decode y_M_putsWorld.2.1 414 = .ok (.aload_n 0, 1) := by decide +kernel
theorem d_M_putsWorld_415 : decode y_M_putsWorld.2.1 415 = .ok (.aload_n 0, 1) := by decide +kernel
theorem d_M_putsWorld_416 : decode y_M_putsWorld.2.1 416 = .ok (.getfield 37, 3) := by decide +kernel
theorem d_M_putsWorld_419 : decode y_M_putsWorld.2.1 419 = .ok (.getfield 195, 3) := by decide +kernel
theorem d_M_putsWorld_422 : decode y_M_putsWorld.2.1 422 = .ok (.iconst 2, 1) := by decide +kernel
theorem d_M_putsWorld_423 : decode y_M_putsWorld.2.1 423 = .ok (.invokevirtual 337, 3) := by decide +kernel
theorem d_M_putsWorld_426 : decode y_M_putsWorld.2.1 426 = .ok (.iconst 0, 1) := by decide +kernel
theorem d_M_putsWorld_427 : decode y_M_putsWorld.2.1 427 = .ok (.istore_n 1, 1) := by decide +kernel
theorem d_M_putsWorld_428 : decode y_M_putsWorld.2.1 428 = .ok (.iload_n 1, 1) := by decide +kernel
theorem d_M_putsWorld_429 : decode y_M_putsWorld.2.1 429 = .ok (.aload_n 0, 1) := by decide +kernel
theorem d_M_putsWorld_430 : decode y_M_putsWorld.2.1 430 = .ok (.getfield 37, 3) := by decide +kernel
theorem d_M_putsWorld_433 : decode y_M_putsWorld.2.1 433 = .ok (.getfield 195, 3) := by decide +kernel
theorem d_M_putsWorld_436 : decode y_M_putsWorld.2.1 436 = .ok (.if_icmp .ge 98, 3) := by decide +kernel
theorem d_M_putsWorld_439 : decode y_M_putsWorld.2.1 439 = .ok (.aload_n 0, 1) := by decide +kernel
theorem d_M_putsWorld_440 : decode y_M_putsWorld.2.1 440 = .ok (.aload_n 0, 1) := by decide +kernel
theorem d_M_putsWorld_441 : decode y_M_putsWorld.2.1 441 = .ok (.getfield 37, 3) := by decide +kernel
theorem d_M_putsWorld_444 : decode y_M_putsWorld.2.1 444 = .ok (.getfield 201, 3) := by decide +kernel
theorem d_M_putsWorld_447 : decode y_M_putsWorld.2.1 447 = .ok (.iload_n 1, 1) := by decide +kernel
theorem d_M_putsWorld_448 : decode y_M_putsWorld.2.1 448 = .ok (.iaload, 1) := by decide +kernel
theorem d_M_putsWorld_449 : decode y_M_putsWorld.2.1 449 = .ok (.iconst 1, 1) := by decide +kernel
theorem d_M_putsWorld_450 : decode y_M_putsWorld.2.1 450 = .ok (.invokevirtual 337, 3) := by decide +kernel
theorem d_M_putsWorld_453 : decode y_M_putsWorld.2.1 453 = .ok (.aload_n 0, 1) := by decide +kernel
theorem d_M_putsWorld_454 : decode y_M_putsWorld.2.1 454 = .ok (.aload_n 0, 1) := by decide +kernel
theorem d_M_putsWorld_455 : decode y_M_putsWorld.2.1 455 = .ok (.getfield 37, 3) := by decide +kernel
theorem d_M_putsWorld_458 : decode y_M_putsWorld.2.1 458 = .ok (.getfield 208, 3) := by decide +kernel
theorem d_M_putsWorld_461 : decode y_M_putsWorld.2.1 461 = .ok (.iload_n 1, 1) := by decide +kernel
theorem d_M_putsWorld_462 : decode y_M_putsWorld.2.1 462 = .ok (.iaload, 1) := by decide +kernel
theorem d_M_putsWorld_463 : decode y_M_putsWorld.2.1 463 = .ok (.iconst 4, 1) := by decide +kernel
theorem d_M_putsWorld_464 : decode y_M_putsWorld.2.1 464 = .ok (.invokevirtual 337, 3) := by decide +kernel
theorem d_M_putsWorld_467 : decode y_M_putsWorld.2.1 467 = .ok (.aload_n 0, 1) := by decide +kernel
theorem d_M_putsWorld_468 : decode y_M_putsWorld.2.1 468 = .ok (.aload_n 0, 1) := by decide +kernel
theorem d_M_putsWorld_469 : decode y_M_putsWorld.2.1 469 = .ok (.getfield 37, 3) := by decide +kernel
theorem d_M_putsWorld_472 : decode y_M_putsWorld.2.1 472 = .ok (.getfield 211, 3) := by decide +kernel
theorem d_M_putsWorld_475 : decode y_M_putsWorld.2.1 475 = .ok (.iload_n 1, 1) := by decide +kernel
theorem d_M_putsWorld_476 : decode y_M_putsWorld.2.1 476 = .ok (.iaload, 1) := by decide +kernel
theorem d_M_putsWorld_477 : decode y_M_putsWorld.2.1 477 = .ok (.iconst 4, 1) := by decide +kernel
theorem d_M_putsWorld_478 : decode y_M_putsWorld.2.1 478 = .ok (.invokevirtual 337, 3) := by decide +kernel
theorem d_M_putsWorld_481 : decode y_M_putsWorld.2.1 481 = .ok (.iconst 0, 1) := by decide +kernel
theorem d_M_putsWorld_482 : decode y_M_putsWorld.2.1 482 = .ok (.istore_n 2, 1) := by decide +kernel
theorem d_M_putsWorld_483 : decode y_M_putsWorld.2.1 483 = .ok (.iload_n 2, 1) := by decide +kernel
theorem d_M_putsWorld_484 : decode y_M_putsWorld.2.1 484 = .ok (.aload_n 0, 1) := by decide +kernel
theorem d_M_putsWorld_485 : decode y_M_putsWorld.2.1 485 = .ok (.getfield 16, 3) := by decide +kernel
theorem d_M_putsWorld_488 : decode y_M_putsWorld.2.1 488 = .ok (.getfield 310, 3) := by decide +kernel
theorem d_M_putsWorld_491 : decode y_M_putsWorld.2.1 491 = .ok (.aload_n 0, 1) := by decide +kernel
theorem d_M_putsWorld_492 : decode y_M_putsWorld.2.1 492 = .ok (.getfield 37, 3) := by decide +kernel
theorem d_M_putsWorld_495 : decode y_M_putsWorld.2.1 495 = .ok (.getfield 201, 3) := by decide +kernel
theorem d_M_putsWorld_498 : decode y_M_putsWorld.2.1 498 = .ok (.iload_n 1, 1) := by decide +kernel
theorem d_M_putsWorld_499 : decode y_M_putsWorld.2.1 499 = .ok (.iaload, 1) := by decide +kernel
theorem d_M_putsWorld_500 : decode y_M_putsWorld.2.1 500 = .ok (.iaload, 1) := by decide +kernel
theorem d_M_putsWorld_501 : decode y_M_putsWorld.2.1 501 = .ok (.if_icmp .ge 27, 3) := by decide +kernel
theorem d_M_putsWorld_504 : decode y_M_putsWorld.2.1 504 = .ok (.aload_n 0, 1) := by decide +kernel
theorem d_M_putsWorld_505 : decode y_M_putsWorld.2.1 505 = .ok (.aload_n 0, 1) := by decide +kernel
theorem d_M_putsWorld_506 : decode y_M_putsWorld.2.1 506 = .ok (.getfield 37, 3) := by decide +kernel
theorem d_M_putsWorld_509 : decode y_M_putsWorld.2.1 509 = .ok (.getfield 214, 3) := by decide +kernel
theorem d_M_putsWorld_512 : decode y_M_putsWorld.2.1 512 = .ok (.iconst 4, 1) := by decide +kernel
theorem d_M_putsWorld_513 : decode y_M_putsWorld.2.1 513 = .ok (.iload_n 1, 1) := by decide +kernel
theorem d_M_putsWorld_514 : decode y_M_putsWorld.2.1 514 = .ok (.imul, 1) := by decide +kernel
theorem d_M_putsWorld_515 : decode y_M_putsWorld.2.1 515 = .ok (.iload_n 2, 1) := by decide +kernel
theorem d_M_putsWorld_516 : decode y_M_putsWorld.2.1 516 = .ok (.iadd, 1) := by decide +kernel
theorem d_M_putsWorld_517 : decode y_M_putsWorld.2.1 517 = .ok (.iaload, 1) := by decide +kernel
theorem d_M_putsWorld_518 : decode y_M_putsWorld.2.1 518 = .ok (.iconst 4, 1) := by decide +kernel
theorem d_M_putsWorld_519 : decode y_M_putsWorld.2.1 519 = .ok (.invokevirtual 337, 3) := by decide +kernel
theorem d_M_putsWorld_522 : decode y_M_putsWorld.2.1 522 = .ok (.iinc 2 1, 3) := by decide +kernel
theorem d_M_putsWorld_525 : decode y_M_putsWorld.2.1 525 = .ok (.goto (-42), 3) := by decide +kernel
theorem d_M_putsWorld_528 : decode y_M_putsWorld.2.1 528 = .ok (.iinc 1 1, 3) := by decide +kernel
theorem d_M_putsWorld_531 : decode y_M_putsWorld.2.1 531 = .ok (.goto (-103), 3) := by decide +kernel
theorem d_M_putsWorld_534 : decode y_M_putsWorld.2.1 534 = .ok (.return_, 1) := by decide +kernel
def y_M_puts : ab_Y := (⟨"WorldEngineModel", "puts", "(II)V"⟩, prog_14_method_43_code, 5, none, [])
theorem d_M_puts_0 : decode y_M_puts.2.1 0 = .ok (.iload_n 2, 1) := by decide +kernel
theorem d_M_puts_1 : decode y_M_puts.2.1 1 = .ok (.iconst 1, 1) := by decide +kernel
theorem d_M_puts_2 : decode y_M_puts.2.1 2 = .ok (.isub, 1) := by decide +kernel
theorem d_M_puts_3 : decode y_M_puts.2.1 3 = .ok (.istore_n 3, 1) := by decide +kernel
theorem d_M_puts_4 : decode y_M_puts.2.1 4 = .ok (.iload_n 3, 1) := by decide +kernel
theorem d_M_puts_5 : decode y_M_puts.2.1 5 = .ok (.ifCond .lt 67, 3) := by decide +kernel
theorem d_M_puts_8 : decode y_M_puts.2.1 8 = .ok (.iload_n 1, 1) := by decide +kernel
theorem d_M_puts_9 : decode y_M_puts.2.1 9 = .ok (.bipush 8, 2) := by decide +kernel
theorem d_M_puts_11 : decode y_M_puts.2.1 11 = .ok (.iload_n 3, 1) := by decide +kernel
theorem d_M_puts_12 : decode y_M_puts.2.1 12 = .ok (.imul, 1) := by decide +kernel
theorem d_M_puts_13 : decode y_M_puts.2.1 13 = .ok (.ishr, 1) := by decide +kernel
theorem d_M_puts_14 : decode y_M_puts.2.1 14 = .ok (.sipush 255, 3) := by decide +kernel
theorem d_M_puts_17 : decode y_M_puts.2.1 17 = .ok (.iand, 1) := by decide +kernel
theorem d_M_puts_18 : decode y_M_puts.2.1 18 = .ok (.istore 4, 2) := by decide +kernel
theorem d_M_puts_20 : decode y_M_puts.2.1 20 = .ok (.aload_n 0, 1) := by decide +kernel
theorem d_M_puts_21 : decode y_M_puts.2.1 21 = .ok (.getfield 331, 3) := by decide +kernel
theorem d_M_puts_24 : decode y_M_puts.2.1 24 = .ok (.ifCond .eq 20, 3) := by decide +kernel
theorem d_M_puts_27 : decode y_M_puts.2.1 27 = .ok (.aload_n 0, 1) := by decide +kernel
theorem d_M_puts_28 : decode y_M_puts.2.1 28 = .ok (.bipush 31, 2) := by decide +kernel
theorem d_M_puts_30 : decode y_M_puts.2.1 30 = .ok (.aload_n 0, 1) := by decide +kernel
theorem d_M_puts_31 : decode y_M_puts.2.1 31 = .ok (.getfield 334, 3) := by decide +kernel
theorem d_M_puts_34 : decode y_M_puts.2.1 34 = .ok (.imul, 1) := by decide +kernel
theorem d_M_puts_35 : decode y_M_puts.2.1 35 = .ok (.iload 4, 2) := by decide +kernel
theorem d_M_puts_37 : decode y_M_puts.2.1 37 = .ok (.iadd, 1) := by decide +kernel
theorem d_M_puts_38 : decode y_M_puts.2.1 38 = .ok (.putfield 334, 3) := by decide +kernel
theorem d_M_puts_41 : decode y_M_puts.2.1 41 = .ok (.goto 25, 3) := by decide +kernel
theorem d_M_puts_44 : decode y_M_puts.2.1 44 = .ok (.aload_n 0, 1) := by decide +kernel
theorem d_M_puts_45 : decode y_M_puts.2.1 45 = .ok (.getfield 74, 3) := by decide +kernel
theorem d_M_puts_48 : decode y_M_puts.2.1 48 = .ok (.aload_n 0, 1) := by decide +kernel
theorem d_M_puts_49 : decode y_M_puts.2.1 49 = .ok (.getfield 323, 3) := by decide +kernel
theorem d_M_puts_52 : decode y_M_puts.2.1 52 = .ok (.iload 4, 2) := by decide +kernel
theorem d_M_puts_54 : decode y_M_puts.2.1 54 = .ok (.i2b, 1) := by decide +kernel
theorem d_M_puts_55 : decode y_M_puts.2.1 55 = .ok (.bastore, 1) := by decide +kernel
theorem d_M_puts_56 : decode y_M_puts.2.1 56 = .ok (.aload_n 0, 1) := by decide +kernel
theorem d_M_puts_57 : decode y_M_puts.2.1 57 = .ok (.dup, 1) := by decide +kernel
theorem d_M_puts_58 : decode y_M_puts.2.1 58 = .ok (.getfield 323, 3) := by decide +kernel
theorem d_M_puts_61 : decode y_M_puts.2.1 61 = .ok (.iconst 1, 1) := by decide +kernel
theorem d_M_puts_62 : decode y_M_puts.2.1 62 = .ok (.iadd, 1) := by decide +kernel
theorem d_M_puts_63 : decode y_M_puts.2.1 63 = .ok (.putfield 323, 3) := by decide +kernel
theorem d_M_puts_66 : decode y_M_puts.2.1 66 = .ok (.iinc 3 (-1), 3) := by decide +kernel
theorem d_M_puts_69 : decode y_M_puts.2.1 69 = .ok (.goto (-65), 3) := by decide +kernel
theorem d_M_puts_72 : decode y_M_puts.2.1 72 = .ok (.return_, 1) := by decide +kernel
def y_M_save : ab_Y := (⟨"WorldEngineModel", "save", "()I"⟩, prog_14_method_46_code, 1, (some FieldType.int), [])
theorem d_M_save_0 : decode y_M_save.2.1 0 = .ok (.aload_n 0, 1) := by decide +kernel
theorem d_M_save_1 : decode y_M_save.2.1 1 = .ok (.iconst 0, 1) := by decide +kernel
theorem d_M_save_2 : decode y_M_save.2.1 2 = .ok (.putfield 83, 3) := by decide +kernel
theorem d_M_save_5 : decode y_M_save.2.1 5 = .ok (.aload_n 0, 1) := by decide +kernel
theorem d_M_save_6 : decode y_M_save.2.1 6 = .ok (.invokevirtual 148, 3) := by decide +kernel
theorem d_M_save_9 : decode y_M_save.2.1 9 = .ok (.ifCond .ne 6, 3) := by decide +kernel
theorem d_M_save_12 : decode y_M_save.2.1 12 = .ok (.bipush (-10), 2) := by decide +kernel
theorem d_M_save_14 : decode y_M_save.2.1 14 = .ok (.ireturn, 1) := by decide +kernel
theorem d_M_save_15 : decode y_M_save.2.1 15 = .ok (.aload_n 0, 1) := by decide +kernel
theorem d_M_save_16 : decode y_M_save.2.1 16 = .ok (.iconst 0, 1) := by decide +kernel
theorem d_M_save_17 : decode y_M_save.2.1 17 = .ok (.putfield 323, 3) := by decide +kernel
theorem d_M_save_20 : decode y_M_save.2.1 20 = .ok (.aload_n 0, 1) := by decide +kernel
theorem d_M_save_21 : decode y_M_save.2.1 21 = .ok (.invokevirtual 350, 3) := by decide +kernel
theorem d_M_save_24 : decode y_M_save.2.1 24 = .ok (.aload_n 0, 1) := by decide +kernel
theorem d_M_save_25 : decode y_M_save.2.1 25 = .ok (.getfield 323, 3) := by decide +kernel
theorem d_M_save_28 : decode y_M_save.2.1 28 = .ok (.ireturn, 1) := by decide +kernel
def y_M_bend : ab_Y := (⟨"WorldEngineModel", "bend", "(II)Z"⟩, prog_14_method_47_code, 3, (some FieldType.boolean), [])
theorem d_M_bend_0 : decode y_M_bend.2.1 0 = .ok (.aload_n 0, 1) := by decide +kernel
theorem d_M_bend_1 : decode y_M_bend.2.1 1 = .ok (.iconst 0, 1) := by decide +kernel
theorem d_M_bend_2 : decode y_M_bend.2.1 2 = .ok (.putfield 83, 3) := by decide +kernel
theorem d_M_bend_5 : decode y_M_bend.2.1 5 = .ok (.iload_n 1, 1) := by decide +kernel
theorem d_M_bend_6 : decode y_M_bend.2.1 6 = .ok (.i2l, 1) := by decide +kernel
theorem d_M_bend_7 : decode y_M_bend.2.1 7 = .ok (.lconst 0, 1) := by decide +kernel
theorem d_M_bend_8 : decode y_M_bend.2.1 8 = .ok (.aload_n 0, 1) := by decide +kernel
theorem d_M_bend_9 : decode y_M_bend.2.1 9 = .ok (.getfield 323, 3) := by decide +kernel
theorem d_M_bend_12 : decode y_M_bend.2.1 12 = .ok (.iconst 1, 1) := by decide +kernel
theorem d_M_bend_13 : decode y_M_bend.2.1 13 = .ok (.isub, 1) := by decide +kernel
theorem d_M_bend_14 : decode y_M_bend.2.1 14 = .ok (.i2l, 1) := by decide +kernel
theorem d_M_bend_15 : decode y_M_bend.2.1 15 = .ok (.invokestatic 99, 3) := by decide +kernel
theorem d_M_bend_18 : decode y_M_bend.2.1 18 = .ok (.ifCond .ne 5, 3) := by decide +kernel
theorem d_M_bend_21 : decode y_M_bend.2.1 21 = .ok (.iconst 0, 1) := by decide +kernel
theorem d_M_bend_22 : decode y_M_bend.2.1 22 = .ok (.ireturn, 1) := by decide +kernel
theorem d_M_bend_23 : decode y_M_bend.2.1 23 = .ok (.aload_n 0, 1) := by decide +kernel
theorem d_M_bend_24 : decode y_M_bend.2.1 24 = .ok (.getfield 74, 3) := by decide +kernel
theorem d_M_bend_27 : decode y_M_bend.2.1 27 = .ok (.iload_n 1, 1) := by decide +kernel
theorem d_M_bend_28 : decode y_M_bend.2.1 28 = .ok (.dup2, 1) := by decide +kernel
theorem d_M_bend_29 : decode y_M_bend.2.1 29 = .ok (.baload, 1) := by decide +kernel
theorem d_M_bend_30 : decode y_M_bend.2.1 30 = .ok (.iload_n 2, 1) := by decide +kernel
theorem d_M_bend_31 : decode y_M_bend.2.1 31 = .ok (.i2b, 1) := by decide +kernel
theorem d_M_bend_32 : decode y_M_bend.2.1 32 = .ok (.ixor, 1) := by decide +kernel
theorem d_M_bend_33 : decode y_M_bend.2.1 33 = .ok (.i2b, 1) := by decide +kernel
theorem d_M_bend_34 : decode y_M_bend.2.1 34 = .ok (.bastore, 1) := by decide +kernel
theorem d_M_bend_35 : decode y_M_bend.2.1 35 = .ok (.iconst 1, 1) := by decide +kernel
theorem d_M_bend_36 : decode y_M_bend.2.1 36 = .ok (.ireturn, 1) := by decide +kernel
def y_M_cut : ab_Y := (⟨"WorldEngineModel", "cut", "(I)Z"⟩, prog_14_method_48_code, 2, (some FieldType.boolean), [])
theorem d_M_cut_0 : decode y_M_cut.2.1 0 = .ok (.aload_n 0, 1) := by decide +kernel
theorem d_M_cut_1 : decode y_M_cut.2.1 1 = .ok (.iconst 0, 1) := by decide +kernel
theorem d_M_cut_2 : decode y_M_cut.2.1 2 = .ok (.putfield 83, 3) := by decide +kernel
theorem d_M_cut_5 : decode y_M_cut.2.1 5 = .ok (.iload_n 1, 1) := by decide +kernel
theorem d_M_cut_6 : decode y_M_cut.2.1 6 = .ok (.i2l, 1) := by decide +kernel
theorem d_M_cut_7 : decode y_M_cut.2.1 7 = .ok (.lconst 0, 1) := by decide +kernel
theorem d_M_cut_8 : decode y_M_cut.2.1 8 = .ok (.aload_n 0, 1) := by decide +kernel
theorem d_M_cut_9 : decode y_M_cut.2.1 9 = .ok (.getfield 323, 3) := by decide +kernel
theorem d_M_cut_12 : decode y_M_cut.2.1 12 = .ok (.i2l, 1) := by decide +kernel
theorem d_M_cut_13 : decode y_M_cut.2.1 13 = .ok (.invokestatic 99, 3) := by decide +kernel
theorem d_M_cut_16 : decode y_M_cut.2.1 16 = .ok (.ifCond .ne 5, 3) := by decide +kernel
theorem d_M_cut_19 : decode y_M_cut.2.1 19 = .ok (.iconst 0, 1) := by decide +kernel
theorem d_M_cut_20 : decode y_M_cut.2.1 20 = .ok (.ireturn, 1) := by decide +kernel
theorem d_M_cut_21 : decode y_M_cut.2.1 21 = .ok (.aload_n 0, 1) := by decide +kernel
theorem d_M_cut_22 : decode y_M_cut.2.1 22 = .ok (.iload_n 1, 1) := by decide +kernel
theorem d_M_cut_23 : decode y_M_cut.2.1 23 = .ok (.putfield 323, 3) := by decide +kernel
theorem d_M_cut_26 : decode y_M_cut.2.1 26 = .ok (.iconst 1, 1) := by decide +kernel
theorem d_M_cut_27 : decode y_M_cut.2.1 27 = .ok (.ireturn, 1) := by decide +kernel
def y_M_byteOut : ab_Y := (⟨"WorldEngineModel", "byteOut", "(I)I"⟩, prog_14_method_49_code, 2, (some FieldType.int), [])
theorem d_M_byteOut_0 : decode y_M_byteOut.2.1 0 = .ok (.aload_n 0, 1) := by decide +kernel
theorem d_M_byteOut_1 : decode y_M_byteOut.2.1 1 = .ok (.iconst 0, 1) := by decide +kernel
theorem d_M_byteOut_2 : decode y_M_byteOut.2.1 2 = .ok (.putfield 83, 3) := by decide +kernel
theorem d_M_byteOut_5 : decode y_M_byteOut.2.1 5 = .ok (.iload_n 1, 1) := by decide +kernel
theorem d_M_byteOut_6 : decode y_M_byteOut.2.1 6 = .ok (.i2l, 1) := by decide +kernel
theorem d_M_byteOut_7 : decode y_M_byteOut.2.1 7 = .ok (.lconst 0, 1) := by decide +kernel
theorem d_M_byteOut_8 : decode y_M_byteOut.2.1 8 = .ok (.aload_n 0, 1) := by decide +kernel
theorem d_M_byteOut_9 : decode y_M_byteOut.2.1 9 = .ok (.getfield 323, 3) := by decide +kernel
theorem d_M_byteOut_12 : decode y_M_byteOut.2.1 12 = .ok (.iconst 1, 1) := by decide +kernel
theorem d_M_byteOut_13 : decode y_M_byteOut.2.1 13 = .ok (.isub, 1) := by decide +kernel
theorem d_M_byteOut_14 : decode y_M_byteOut.2.1 14 = .ok (.i2l, 1) := by decide +kernel
theorem d_M_byteOut_15 : decode y_M_byteOut.2.1 15 = .ok (.invokestatic 99, 3) := by decide +kernel
theorem d_M_byteOut_18 : decode y_M_byteOut.2.1 18 = .ok (.ifCond .eq 16, 3) := by decide +kernel
theorem d_M_byteOut_21 : decode y_M_byteOut.2.1 21 = .ok (.aload_n 0, 1) := by decide +kernel
theorem d_M_byteOut_22 : decode y_M_byteOut.2.1 22 = .ok (.getfield 74, 3) := by decide +kernel
theorem d_M_byteOut_25 : decode y_M_byteOut.2.1 25 = .ok (.iload_n 1, 1) := by decide +kernel
theorem d_M_byteOut_26 : decode y_M_byteOut.2.1 26 = .ok (.baload, 1) := by decide +kernel
theorem d_M_byteOut_27 : decode y_M_byteOut.2.1 27 = .ok (.sipush 255, 3) := by decide +kernel
theorem d_M_byteOut_30 : decode y_M_byteOut.2.1 30 = .ok (.iand, 1) := by decide +kernel
theorem d_M_byteOut_31 : decode y_M_byteOut.2.1 31 = .ok (.goto 4, 3) := by decide +kernel
theorem d_M_byteOut_34 : decode y_M_byteOut.2.1 34 = .ok (.iconst (-1), 1) := by decide +kernel
theorem d_M_byteOut_35 : decode y_M_byteOut.2.1 35 = .ok (.ireturn, 1) := by decide +kernel
def y_M_load : ab_Y := (⟨"WorldEngineModel", "load", "()I"⟩, prog_14_method_56_code, 2, (some FieldType.int), [])
theorem d_M_load_0 : decode y_M_load.2.1 0 = .ok (.aload_n 0, 1) := by decide +kernel
theorem d_M_load_1 : decode y_M_load.2.1 1 = .ok (.iconst 0, 1) := by decide +kernel
theorem d_M_load_2 : decode y_M_load.2.1 2 = .ok (.putfield 83, 3) := by decide +kernel
theorem d_M_load_5 : decode y_M_load.2.1 5 = .ok (.aload_n 0, 1) := by decide +kernel
theorem d_M_load_6 : decode y_M_load.2.1 6 = .ok (.invokevirtual 148, 3) := by decide +kernel
theorem d_M_load_9 : decode y_M_load.2.1 9 = .ok (.ifCond .ne 7, 3) := by decide +kernel
theorem d_M_load_12 : decode y_M_load.2.1 12 = .ok (.ldc_w 371, 3) := by decide +kernel
theorem d_M_load_15 : decode y_M_load.2.1 15 = .ok (.ireturn, 1) := by decide +kernel
theorem d_M_load_16 : decode y_M_load.2.1 16 = .ok (.aload_n 0, 1) := by decide +kernel
theorem d_M_load_17 : decode y_M_load.2.1 17 = .ok (.getfield 113, 3) := by decide +kernel
theorem d_M_load_20 : decode y_M_load.2.1 20 = .ok (.ifCond .ne 7, 3) := by decide +kernel
theorem d_M_load_23 : decode y_M_load.2.1 23 = .ok (.ldc_w 372, 3) := by decide +kernel
theorem d_M_load_26 : decode y_M_load.2.1 26 = .ok (.ireturn, 1) := by decide +kernel
theorem d_M_load_27 : decode y_M_load.2.1 27 = .ok (.aload_n 0, 1) := by decide +kernel
theorem d_M_load_28 : decode y_M_load.2.1 28 = .ok (.iconst 0, 1) := by decide +kernel
theorem d_M_load_29 : decode y_M_load.2.1 29 = .ok (.putfield 356, 3) := by decide +kernel
theorem d_M_load_32 : decode y_M_load.2.1 32 = .ok (.aload_n 0, 1) := by decide +kernel
theorem d_M_load_33 : decode y_M_load.2.1 33 = .ok (.iconst (-1), 1) := by decide +kernel
theorem d_M_load_34 : decode y_M_load.2.1 34 = .ok (.putfield 353, 3) := by decide +kernel
theorem d_M_load_37 : decode y_M_load.2.1 37 = .ok (.aload_n 0, 1) := by decide +kernel
theorem d_M_load_38 : decode y_M_load.2.1 38 = .ok (.getfield 40, 3) := by decide +kernel
theorem d_M_load_41 : decode y_M_load.2.1 41 = .ok (.astore_n 1, 1) := by decide +kernel
theorem d_M_load_42 : decode y_M_load.2.1 42 = .ok (.aload_n 1, 1) := by decide +kernel
theorem d_M_load_43 : decode y_M_load.2.1 43 = .ok (.invokevirtual 123, 3) := by decide +kernel
theorem d_M_load_46 : decode y_M_load.2.1 46 = .ok (.aload_n 0, 1) := by decide +kernel
theorem d_M_load_47 : decode y_M_load.2.1 47 = .ok (.invokevirtual 373, 3) := by decide +kernel
theorem d_M_load_50 : decode y_M_load.2.1 50 = .ok (.aload_n 1, 1) := by decide +kernel
theorem d_M_load_51 : decode y_M_load.2.1 51 = .ok (.aload_n 0, 1) := by decide +kernel
theorem d_M_load_52 : decode y_M_load.2.1 52 = .ok (.iconst 4, 1) := by decide +kernel
theorem d_M_load_53 : decode y_M_load.2.1 53 = .ok (.iconst 0, 1) := by decide +kernel
theorem d_M_load_54 : decode y_M_load.2.1 54 = .ok (.ldc 251, 2) := by decide +kernel
theorem d_M_load_56 : decode y_M_load.2.1 56 = .ok (.invokevirtual 359, 3) := by decide +kernel
theorem d_M_load_59 : decode y_M_load.2.1 59 = .ok (.putfield 145, 3) := by decide +kernel
theorem d_M_load_62 : decode y_M_load.2.1 62 = .ok (.aload_n 1, 1) := by decide +kernel
theorem d_M_load_63 : decode y_M_load.2.1 63 = .ok (.aload_n 0, 1) := by decide +kernel
theorem d_M_load_64 : decode y_M_load.2.1 64 = .ok (.iconst 4, 1) := by decide +kernel
theorem d_M_load_65 : decode y_M_load.2.1 65 = .ok (.ldc_w 362, 3) := by decide +kernel
theorem d_M_load_68 : decode y_M_load.2.1 68 = .ok (.ldc_w 363, 3) := by decide +kernel
theorem d_M_load_71 : decode y_M_load.2.1 71 = .ok (.invokevirtual 359, 3) := by decide +kernel
theorem d_M_load_74 : decode y_M_load.2.1 74 = .ok (.putfield 126, 3) := by decide +kernel
theorem d_M_load_77 : decode y_M_load.2.1 77 = .ok (.aload_n 1, 1) := by decide +kernel
theorem d_M_load_78 : decode y_M_load.2.1 78 = .ok (.aload_n 0, 1) := by decide +kernel
theorem d_M_load_79 : decode y_M_load.2.1 79 = .ok (.iconst 4, 1) := by decide +kernel
theorem d_M_load_80 : decode y_M_load.2.1 80 = .ok (.iconst 0, 1) := by decide +kernel
theorem d_M_load_81 : decode y_M_load.2.1 81 = .ok (.ldc 251, 2) := by decide +kernel
theorem d_M_load_83 : decode y_M_load.2.1 83 = .ok (.invokevirtual 359, 3) := by decide +kernel
theorem d_M_load_86 : decode y_M_load.2.1 86 = .ok (.putfield 317, 3) := by decide +kernel
theorem d_M_load_89 : decode y_M_load.2.1 89 = .ok (.aload_n 1, 1) := by decide +kernel
theorem d_M_load_90 : decode y_M_load.2.1 90 = .ok (.aload_n 0, 1) := by decide +kernel
theorem d_M_load_91 : decode y_M_load.2.1 91 = .ok (.iconst 4, 1) := by decide +kernel
theorem d_M_load_92 : decode y_M_load.2.1 92 = .ok (.iconst 0, 1) := by decide +kernel
theorem d_M_load_93 : decode y_M_load.2.1 93 = .ok (.ldc 251, 2) := by decide +kernel
theorem d_M_load_95 : decode y_M_load.2.1 95 = .ok (.invokevirtual 359, 3) := by decide +kernel
theorem d_M_load_98 : decode y_M_load.2.1 98 = .ok (.putfield 320, 3) := by decide +kernel
theorem d_M_load_101 : decode y_M_load.2.1 101 = .ok (.aload_n 0, 1) := by decide +kernel
theorem d_M_load_102 : decode y_M_load.2.1 102 = .ok (.aload_n 1, 1) := by decide +kernel
theorem d_M_load_103 : decode y_M_load.2.1 103 = .ok (.invokevirtual 376, 3) := by decide +kernel
theorem d_M_load_106 : decode y_M_load.2.1 106 = .ok (.aload_n 0, 1) := by decide +kernel
theorem d_M_load_107 : decode y_M_load.2.1 107 = .ok (.aload_n 1, 1) := by decide +kernel
theorem d_M_load_108 : decode y_M_load.2.1 108 = .ok (.invokevirtual 379, 3) := by decide +kernel
theorem d_M_load_111 : decode y_M_load.2.1 111 = .ok (.aload_n 0, 1) := by decide +kernel
theorem d_M_load_112 : decode y_M_load.2.1 112 = .ok (.getfield 353, 3) := by decide +kernel
theorem d_M_load_115 : decode y_M_load.2.1 115 = .ok (.ifCond .ge 22, 3) := by decide +kernel
theorem d_M_load_118 : decode y_M_load.2.1 118 = .ok (.aload_n 0, 1) := by decide +kernel
theorem d_M_load_119 : decode y_M_load.2.1 119 = .ok (.getfield 356, 3) := by decide +kernel
theorem d_M_load_122 : decode y_M_load.2.1 122 = .ok (.aload_n 0, 1) := by decide +kernel
theorem d_M_load_123 : decode y_M_load.2.1 123 = .ok (.getfield 323, 3) := by decide +kernel
theorem d_M_load_126 : decode y_M_load.2.1 126 = .ok (.if_icmp .ge 11, 3) := by decide +kernel
theorem d_M_load_129 : decode y_M_load.2.1 129 = .ok (.aload_n 0, 1) := by decide +kernel
theorem d_M_load_130 : decode y_M_load.2.1 130 = .ok (.aload_n 0, 1) := by decide +kernel
theorem d_M_load_131 : decode y_M_load.2.1 131 = .ok (.getfield 356, 3) := by decide +kernel
theorem d_M_load_134 : decode y_M_load.2.1 134 = .ok (.putfield 353, 3) := by decide +kernel
theorem d_M_load_137 : decode y_M_load.2.1 137 = .ok (.aload_n 0, 1) := by decide +kernel
theorem d_M_load_138 : decode y_M_load.2.1 138 = .ok (.getfield 353, 3) := by decide +kernel
theorem d_M_load_141 : decode y_M_load.2.1 141 = .ok (.ifCond .lt 10, 3) := by decide +kernel
theorem d_M_load_144 : decode y_M_load.2.1 144 = .ok (.iconst (-1), 1) := by decide +kernel
theorem d_M_load_145 : decode y_M_load.2.1 145 = .ok (.aload_n 0, 1) := by decide +kernel
theorem d_M_load_146 : decode y_M_load.2.1 146 = .ok (.getfield 353, 3) := by decide +kernel
theorem d_M_load_149 : decode y_M_load.2.1 149 = .ok (.isub, 1) := by decide +kernel
theorem d_M_load_150 : decode y_M_load.2.1 150 = .ok (.ireturn, 1) := by decide +kernel
theorem d_M_load_151 : decode y_M_load.2.1 151 = .ok (.aload_n 0, 1) := by decide +kernel
theorem d_M_load_152 : decode y_M_load.2.1 152 = .ok (.aload_n 0, 1) := by decide +kernel
theorem d_M_load_153 : decode y_M_load.2.1 153 = .ok (.getfield 37, 3) := by decide +kernel
theorem d_M_load_156 : decode y_M_load.2.1 156 = .ok (.putfield 40, 3) := by decide +kernel
theorem d_M_load_159 : decode y_M_load.2.1 159 = .ok (.aload_n 0, 1) := by decide +kernel
theorem d_M_load_160 : decode y_M_load.2.1 160 = .ok (.aload_n 1, 1) := by decide +kernel
theorem d_M_load_161 : decode y_M_load.2.1 161 = .ok (.putfield 37, 3) := by decide +kernel
theorem d_M_load_164 : decode y_M_load.2.1 164 = .ok (.aload_n 0, 1) := by decide +kernel
theorem d_M_load_165 : decode y_M_load.2.1 165 = .ok (.getfield 33, 3) := by decide +kernel
theorem d_M_load_168 : decode y_M_load.2.1 168 = .ok (.aload_n 0, 1) := by decide +kernel
theorem d_M_load_169 : decode y_M_load.2.1 169 = .ok (.getfield 37, 3) := by decide +kernel
theorem d_M_load_172 : decode y_M_load.2.1 172 = .ok (.invokevirtual 129, 3) := by decide +kernel
theorem d_M_load_175 : decode y_M_load.2.1 175 = .ok (.aload_n 0, 1) := by decide +kernel
theorem d_M_load_176 : decode y_M_load.2.1 176 = .ok (.invokevirtual 133, 3) := by decide +kernel
theorem d_M_load_179 : decode y_M_load.2.1 179 = .ok (.iconst 0, 1) := by decide +kernel
theorem d_M_load_180 : decode y_M_load.2.1 180 = .ok (.ireturn, 1) := by decide +kernel
def y_MWorld_copies : ab_Y := (⟨"WorldEngineModel$World", "copies", "(LWorldEngineModel$World;)V"⟩, prog_17_method_3_code, 3, none, [])
theorem d_MWorld_copies_0 : decode y_MWorld_copies.2.1 0 = .ok (.aload_n 0, 1) := by decide +kernel
theorem d_MWorld_copies_1 : decode y_MWorld_copies.2.1 1 = .ok (.aload_n 1, 1) := by decide +kernel
theorem d_MWorld_copies_2 : decode y_MWorld_copies.2.1 2 = .ok (.getfield 43, 3) := by decide +kernel
theorem d_MWorld_copies_5 : decode y_MWorld_copies.2.1 5 = .ok (.putfield 43, 3) := by decide +kernel
theorem d_MWorld_copies_8 : decode y_MWorld_copies.2.1 8 = .ok (.aload_n 0, 1) := by decide +kernel
theorem d_MWorld_copies_9 : decode y_MWorld_copies.2.1 9 = .ok (.aload_n 1, 1) := by decide +kernel
theorem d_MWorld_copies_10 : decode y_MWorld_copies.2.1 10 = .ok (.getfield 47, 3) := by decide +kernel
theorem d_MWorld_copies_13 : decode y_MWorld_copies.2.1 13 = .ok (.putfield 47, 3) := by decide +kernel
theorem d_MWorld_copies_16 : decode y_MWorld_copies.2.1 16 = .ok (.aload_n 0, 1) := by decide +kernel
theorem d_MWorld_copies_17 : decode y_MWorld_copies.2.1 17 = .ok (.aload_n 1, 1) := by decide +kernel
theorem d_MWorld_copies_18 : decode y_MWorld_copies.2.1 18 = .ok (.getfield 50, 3) := by decide +kernel
theorem d_MWorld_copies_21 : decode y_MWorld_copies.2.1 21 = .ok (.putfield 50, 3) := by decide +kernel
theorem d_MWorld_copies_24 : decode y_MWorld_copies.2.1 24 = .ok (.aload_n 0, 1) := by decide +kernel
theorem d_MWorld_copies_25 : decode y_MWorld_copies.2.1 25 = .ok (.aload_n 1, 1) := by decide +kernel
theorem d_MWorld_copies_26 : decode y_MWorld_copies.2.1 26 = .ok (.getfield 53, 3) := by decide +kernel
theorem d_MWorld_copies_29 : decode y_MWorld_copies.2.1 29 = .ok (.putfield 53, 3) := by decide +kernel
theorem d_MWorld_copies_32 : decode y_MWorld_copies.2.1 32 = .ok (.aload_n 0, 1) := by decide +kernel
theorem d_MWorld_copies_33 : decode y_MWorld_copies.2.1 33 = .ok (.aload_n 1, 1) := by decide +kernel
theorem d_MWorld_copies_34 : decode y_MWorld_copies.2.1 34 = .ok (.getfield 56, 3) := by decide +kernel
theorem d_MWorld_copies_37 : decode y_MWorld_copies.2.1 37 = .ok (.putfield 56, 3) := by decide +kernel
theorem d_MWorld_copies_40 : decode y_MWorld_copies.2.1 40 = .ok (.aload_n 0, 1) := by decide +kernel
theorem d_MWorld_copies_41 : decode y_MWorld_copies.2.1 41 = .ok (.aload_n 1, 1) := by decide +kernel
theorem d_MWorld_copies_42 : decode y_MWorld_copies.2.1 42 = .ok (.getfield 59, 3) := by decide +kernel
theorem d_MWorld_copies_45 : decode y_MWorld_copies.2.1 45 = .ok (.putfield 59, 3) := by decide +kernel
theorem d_MWorld_copies_48 : decode y_MWorld_copies.2.1 48 = .ok (.aload_n 0, 1) := by decide +kernel
theorem d_MWorld_copies_49 : decode y_MWorld_copies.2.1 49 = .ok (.aload_n 1, 1) := by decide +kernel
theorem d_MWorld_copies_50 : decode y_MWorld_copies.2.1 50 = .ok (.getfield 65, 3) := by decide +kernel
theorem d_MWorld_copies_53 : decode y_MWorld_copies.2.1 53 = .ok (.putfield 65, 3) := by decide +kernel
theorem d_MWorld_copies_56 : decode y_MWorld_copies.2.1 56 = .ok (.aload_n 0, 1) := by decide +kernel
theorem d_MWorld_copies_57 : decode y_MWorld_copies.2.1 57 = .ok (.aload_n 1, 1) := by decide +kernel
theorem d_MWorld_copies_58 : decode y_MWorld_copies.2.1 58 = .ok (.getfield 68, 3) := by decide +kernel
theorem d_MWorld_copies_61 : decode y_MWorld_copies.2.1 61 = .ok (.putfield 68, 3) := by decide +kernel
theorem d_MWorld_copies_64 : decode y_MWorld_copies.2.1 64 = .ok (.aload_n 0, 1) := by decide +kernel
theorem d_MWorld_copies_65 : decode y_MWorld_copies.2.1 65 = .ok (.aload_n 1, 1) := by decide +kernel
theorem d_MWorld_copies_66 : decode y_MWorld_copies.2.1 66 = .ok (.getfield 62, 3) := by decide +kernel
theorem d_MWorld_copies_69 : decode y_MWorld_copies.2.1 69 = .ok (.putfield 62, 3) := by decide +kernel
theorem d_MWorld_copies_72 : decode y_MWorld_copies.2.1 72 = .ok (.iconst 0, 1) := by decide +kernel
theorem d_MWorld_copies_73 : decode y_MWorld_copies.2.1 73 = .ok (.istore_n 2, 1) := by decide +kernel
theorem d_MWorld_copies_74 : decode y_MWorld_copies.2.1 74 = .ok (.iload_n 2, 1) := by decide +kernel
theorem d_MWorld_copies_75 : decode y_MWorld_copies.2.1 75 = .ok (.bipush 32, 2) := by decide +kernel
theorem d_MWorld_copies_77 : decode y_MWorld_copies.2.1 77 = .ok (.if_icmp .ge 21, 3) := by decide +kernel
theorem d_MWorld_copies_80 : decode y_MWorld_copies.2.1 80 = .ok (.aload_n 0, 1) := by decide +kernel
theorem d_MWorld_copies_81 : decode y_MWorld_copies.2.1 81 = .ok (.getfield 37, 3) := by decide +kernel
theorem d_MWorld_copies_84 : decode y_MWorld_copies.2.1 84 = .ok (.iload_n 2, 1) := by decide +kernel
theorem d_MWorld_copies_85 : decode y_MWorld_copies.2.1 85 = .ok (.aload_n 1, 1) := by decide +kernel
theorem d_MWorld_copies_86 : decode y_MWorld_copies.2.1 86 = .ok (.getfield 37, 3) := by decide +kernel
theorem d_MWorld_copies_89 : decode y_MWorld_copies.2.1 89 = .ok (.iload_n 2, 1) := by decide +kernel
theorem d_MWorld_copies_90 : decode y_MWorld_copies.2.1 90 = .ok (.iaload, 1) := by decide +kernel
theorem d_MWorld_copies_91 : decode y_MWorld_copies.2.1 91 = .ok (.iastore, 1) := by decide +kernel
theorem d_MWorld_copies_92 : decode y_MWorld_copies.2.1 92 = .ok (.iinc 2 1, 3) := by decide +kernel
theorem d_MWorld_copies_95 : decode y_MWorld_copies.2.1 95 = .ok (.goto (-21), 3) := by decide +kernel
theorem d_MWorld_copies_98 : decode y_MWorld_copies.2.1 98 = .ok (.iconst 0, 1) := by decide +kernel
theorem d_MWorld_copies_99 : decode y_MWorld_copies.2.1 99 = .ok (.istore_n 2, 1) := by decide +kernel
theorem d_MWorld_copies_100 : decode y_MWorld_copies.2.1 100 = .ok (.iload_n 2, 1) := by decide +kernel
theorem d_MWorld_copies_101 : decode y_MWorld_copies.2.1 101 = .ok (.sipush 256, 3) := by decide +kernel
theorem d_MWorld_copies_104 : decode y_MWorld_copies.2.1 104 = .ok (.if_icmp .ge 45, 3) := by decide +kernel
theorem d_MWorld_copies_107 : decode y_MWorld_copies.2.1 107 = .ok (.aload_n 0, 1) := by decide +kernel
theorem d_MWorld_copies_108 : decode y_MWorld_copies.2.1 108 = .ok (.getfield 9, 3) := by decide +kernel
theorem d_MWorld_copies_111 : decode y_MWorld_copies.2.1 111 = .ok (.iload_n 2, 1) := by decide +kernel
theorem d_MWorld_copies_112 : decode y_MWorld_copies.2.1 112 = .ok (.aload_n 1, 1) := by decide +kernel
theorem d_MWorld_copies_113 : decode y_MWorld_copies.2.1 113 = .ok (.getfield 9, 3) := by decide +kernel
theorem d_MWorld_copies_116 : decode y_MWorld_copies.2.1 116 = .ok (.iload_n 2, 1) := by decide +kernel
theorem d_MWorld_copies_117 : decode y_MWorld_copies.2.1 117 = .ok (.iaload, 1) := by decide +kernel
theorem d_MWorld_copies_118 : decode y_MWorld_copies.2.1 118 = .ok (.iastore, 1) := by decide +kernel
theorem d_MWorld_copies_119 : decode y_MWorld_copies.2.1 119 = .ok (.aload_n 0, 1) := by decide +kernel
theorem d_MWorld_copies_120 : decode y_MWorld_copies.2.1 120 = .ok (.getfield 15, 3) := by decide +kernel
theorem d_MWorld_copies_123 : decode y_MWorld_copies.2.1 123 = .ok (.iload_n 2, 1) := by decide +kernel
theorem d_MWorld_copies_124 : decode y_MWorld_copies.2.1 124 = .ok (.aload_n 1, 1) := by decide +kernel
theorem d_MWorld_copies_125 : decode y_MWorld_copies.2.1 125 = .ok (.getfield 15, 3) := by decide +kernel
theorem d_MWorld_copies_128 : decode y_MWorld_copies.2.1 128 = .ok (.iload_n 2, 1) := by decide +kernel
theorem d_MWorld_copies_129 : decode y_MWorld_copies.2.1 129 = .ok (.baload, 1) := by decide +kernel
theorem d_MWorld_copies_130 : decode y_MWorld_copies.2.1 130 = .ok (.bastore, 1) := by decide +kernel
theorem d_MWorld_copies_131 : decode y_MWorld_copies.2.1 131 = .ok (.aload_n 0, 1) := by decide +kernel
theorem d_MWorld_copies_132 : decode y_MWorld_copies.2.1 132 = .ok (.getfield 19, 3) := by decide +kernel
theorem d_MWorld_copies_135 : decode y_MWorld_copies.2.1 135 = .ok (.iload_n 2, 1) := by decide +kernel
theorem d_MWorld_copies_136 : decode y_MWorld_copies.2.1 136 = .ok (.aload_n 1, 1) := by decide +kernel
theorem d_MWorld_copies_137 : decode y_MWorld_copies.2.1 137 = .ok (.getfield 19, 3) := by decide +kernel
theorem d_MWorld_copies_140 : decode y_MWorld_copies.2.1 140 = .ok (.iload_n 2, 1) := by decide +kernel
theorem d_MWorld_copies_141 : decode y_MWorld_copies.2.1 141 = .ok (.iaload, 1) := by decide +kernel
theorem d_MWorld_copies_142 : decode y_MWorld_copies.2.1 142 = .ok (.iastore, 1) := by decide +kernel
theorem d_MWorld_copies_143 : decode y_MWorld_copies.2.1 143 = .ok (.iinc 2 1, 3) := by decide +kernel
theorem d_MWorld_copies_146 : decode y_MWorld_copies.2.1 146 = .ok (.goto (-46), 3) := by decide +kernel
theorem d_MWorld_copies_149 : decode y_MWorld_copies.2.1 149 = .ok (.iconst 0, 1) := by decide +kernel
theorem d_MWorld_copies_150 : decode y_MWorld_copies.2.1 150 = .ok (.istore_n 2, 1) := by decide +kernel
theorem d_MWorld_copies_151 : decode y_MWorld_copies.2.1 151 = .ok (.iload_n 2, 1) := by decide +kernel
theorem d_MWorld_copies_152 : decode y_MWorld_copies.2.1 152 = .ok (.sipush 12288, 3) := by decide +kernel
theorem d_MWorld_copies_155 : decode y_MWorld_copies.2.1 155 = .ok (.if_icmp .ge 21, 3) := by decide +kernel
theorem d_MWorld_copies_158 : decode y_MWorld_copies.2.1 158 = .ok (.aload_n 0, 1) := by decide +kernel
theorem d_MWorld_copies_159 : decode y_MWorld_copies.2.1 159 = .ok (.getfield 22, 3) := by decide +kernel
theorem d_MWorld_copies_162 : decode y_MWorld_copies.2.1 162 = .ok (.iload_n 2, 1) := by decide +kernel
theorem d_MWorld_copies_163 : decode y_MWorld_copies.2.1 163 = .ok (.aload_n 1, 1) := by decide +kernel
theorem d_MWorld_copies_164 : decode y_MWorld_copies.2.1 164 = .ok (.getfield 22, 3) := by decide +kernel
theorem d_MWorld_copies_167 : decode y_MWorld_copies.2.1 167 = .ok (.iload_n 2, 1) := by decide +kernel
theorem d_MWorld_copies_168 : decode y_MWorld_copies.2.1 168 = .ok (.iaload, 1) := by decide +kernel
theorem d_MWorld_copies_169 : decode y_MWorld_copies.2.1 169 = .ok (.iastore, 1) := by decide +kernel
theorem d_MWorld_copies_170 : decode y_MWorld_copies.2.1 170 = .ok (.iinc 2 1, 3) := by decide +kernel
theorem d_MWorld_copies_173 : decode y_MWorld_copies.2.1 173 = .ok (.goto (-22), 3) := by decide +kernel
theorem d_MWorld_copies_176 : decode y_MWorld_copies.2.1 176 = .ok (.iconst 0, 1) := by decide +kernel
theorem d_MWorld_copies_177 : decode y_MWorld_copies.2.1 177 = .ok (.istore_n 2, 1) := by decide +kernel
theorem d_MWorld_copies_178 : decode y_MWorld_copies.2.1 178 = .ok (.iload_n 2, 1) := by decide +kernel
theorem d_MWorld_copies_179 : decode y_MWorld_copies.2.1 179 = .ok (.aload_n 0, 1) := by decide +kernel
theorem d_MWorld_copies_180 : decode y_MWorld_copies.2.1 180 = .ok (.getfield 56, 3) := by decide +kernel
theorem d_MWorld_copies_183 : decode y_MWorld_copies.2.1 183 = .ok (.if_icmp .ge 16, 3) := by decide +kernel
theorem d_MWorld_copies_186 : decode y_MWorld_copies.2.1 186 = .ok (.aload_n 0, 1) := by decide +kernel
theorem d_MWorld_copies_187 : decode y_MWorld_copies.2.1 187 = .ok (.aload_n 1, 1) := by decide +kernel
theorem d_MWorld_copies_188 : decode y_MWorld_copies.2.1 188 = .ok (.iload_n 2, 1) := by decide +kernel
theorem d_MWorld_copies_189 : decode y_MWorld_copies.2.1 189 = .ok (.iload_n 2, 1) := by decide +kernel
theorem d_MWorld_copies_190 : decode y_MWorld_copies.2.1 190 = .ok (.invokevirtual 71, 3) := by decide +kernel
theorem d_MWorld_copies_193 : decode y_MWorld_copies.2.1 193 = .ok (.iinc 2 1, 3) := by decide +kernel
theorem d_MWorld_copies_196 : decode y_MWorld_copies.2.1 196 = .ok (.goto (-18), 3) := by decide +kernel
theorem d_MWorld_copies_199 : decode y_MWorld_copies.2.1 199 = .ok (.return_, 1) := by decide +kernel
def y_MWorld_isAlive : ab_Y := (⟨"WorldEngineModel$World", "isAlive", "(I)Z"⟩, prog_17_method_6_code, 3, (some FieldType.boolean), [])
theorem d_MWorld_isAlive_0 : decode y_MWorld_isAlive.2.1 0 = .ok (.iload_n 1, 1) := by decide +kernel
theorem d_MWorld_isAlive_1 : decode y_MWorld_isAlive.2.1 1 = .ok (.sipush 255, 3) := by decide +kernel
theorem d_MWorld_isAlive_4 : decode y_MWorld_isAlive.2.1 4 = .ok (.iand, 1) := by decide +kernel
theorem d_MWorld_isAlive_5 : decode y_MWorld_isAlive.2.1 5 = .ok (.istore_n 2, 1) := by decide +kernel
theorem d_MWorld_isAlive_6 : decode y_MWorld_isAlive.2.1 6 = .ok (.aload_n 0, 1) := by decide +kernel
theorem d_MWorld_isAlive_7 : decode y_MWorld_isAlive.2.1 7 = .ok (.getfield 15, 3) := by decide +kernel
theorem d_MWorld_isAlive_10 : decode y_MWorld_isAlive.2.1 10 = .ok (.iload_n 2, 1) := by decide +kernel
theorem d_MWorld_isAlive_11 : decode y_MWorld_isAlive.2.1 11 = .ok (.baload, 1) := by decide +kernel
theorem d_MWorld_isAlive_12 : decode y_MWorld_isAlive.2.1 12 = .ok (.ifCond .eq 16, 3) := by decide +kernel
theorem d_MWorld_isAlive_15 : decode y_MWorld_isAlive.2.1 15 = .ok (.aload_n 0, 1) := by decide +kernel
theorem d_MWorld_isAlive_16 : decode y_MWorld_isAlive.2.1 16 = .ok (.iload_n 2, 1) := by decide +kernel
theorem d_MWorld_isAlive_17 : decode y_MWorld_isAlive.2.1 17 = .ok (.invokevirtual 75, 3) := by decide +kernel
theorem d_MWorld_isAlive_20 : decode y_MWorld_isAlive.2.1 20 = .ok (.iload_n 1, 1) := by decide +kernel
theorem d_MWorld_isAlive_21 : decode y_MWorld_isAlive.2.1 21 = .ok (.if_icmp .ne 7, 3) := by decide +kernel
theorem d_MWorld_isAlive_24 : decode y_MWorld_isAlive.2.1 24 = .ok (.iconst 1, 1) := by decide +kernel
theorem d_MWorld_isAlive_25 : decode y_MWorld_isAlive.2.1 25 = .ok (.goto 4, 3) := by decide +kernel
theorem d_MWorld_isAlive_28 : decode y_MWorld_isAlive.2.1 28 = .ok (.iconst 0, 1) := by decide +kernel
theorem d_MWorld_isAlive_29 : decode y_MWorld_isAlive.2.1 29 = .ok (.ireturn, 1) := by decide +kernel
def y_MWorld_has : ab_Y := (⟨"WorldEngineModel$World", "has", "(II)Z"⟩, prog_17_method_7_code, 3, (some FieldType.boolean), [])
theorem d_MWorld_has_0 : decode y_MWorld_has.2.1 0 = .ok (.aload_n 0, 1) := by decide +kernel
theorem d_MWorld_has_1 : decode y_MWorld_has.2.1 1 = .ok (.iload_n 1, 1) := by decide +kernel
theorem d_MWorld_has_2 : decode y_MWorld_has.2.1 2 = .ok (.invokevirtual 79, 3) := by decide +kernel
theorem d_MWorld_has_5 : decode y_MWorld_has.2.1 5 = .ok (.ifCond .eq 25, 3) := by decide +kernel
theorem d_MWorld_has_8 : decode y_MWorld_has.2.1 8 = .ok (.aload_n 0, 1) := by decide +kernel
theorem d_MWorld_has_9 : decode y_MWorld_has.2.1 9 = .ok (.getfield 19, 3) := by decide +kernel
theorem d_MWorld_has_12 : decode y_MWorld_has.2.1 12 = .ok (.iload_n 1, 1) := by decide +kernel
theorem d_MWorld_has_13 : decode y_MWorld_has.2.1 13 = .ok (.sipush 255, 3) := by decide +kernel
theorem d_MWorld_has_16 : decode y_MWorld_has.2.1 16 = .ok (.iand, 1) := by decide +kernel
theorem d_MWorld_has_17 : decode y_MWorld_has.2.1 17 = .ok (.iaload, 1) := by decide +kernel
theorem d_MWorld_has_18 : decode y_MWorld_has.2.1 18 = .ok (.iload_n 2, 1) := by decide +kernel
theorem d_MWorld_has_19 : decode y_MWorld_has.2.1 19 = .ok (.ishr, 1) := by decide +kernel
theorem d_MWorld_has_20 : decode y_MWorld_has.2.1 20 = .ok (.iconst 1, 1) := by decide +kernel
theorem d_MWorld_has_21 : decode y_MWorld_has.2.1 21 = .ok (.iand, 1) := by decide +kernel
theorem d_MWorld_has_22 : decode y_MWorld_has.2.1 22 = .ok (.iconst 1, 1) := by decide +kernel
theorem d_MWorld_has_23 : decode y_MWorld_has.2.1 23 = .ok (.if_icmp .ne 7, 3) := by decide +kernel
theorem d_MWorld_has_26 : decode y_MWorld_has.2.1 26 = .ok (.iconst 1, 1) := by decide +kernel
theorem d_MWorld_has_27 : decode y_MWorld_has.2.1 27 = .ok (.goto 4, 3) := by decide +kernel
theorem d_MWorld_has_30 : decode y_MWorld_has.2.1 30 = .ok (.iconst 0, 1) := by decide +kernel
theorem d_MWorld_has_31 : decode y_MWorld_has.2.1 31 = .ok (.ireturn, 1) := by decide +kernel
def y_MWorld_entities : ab_Y := (⟨"WorldEngineModel$World", "entities", "()I"⟩, prog_17_method_8_code, 3, (some FieldType.int), [])
theorem d_MWorld_entities_0 : decode y_MWorld_entities.2.1 0 = .ok (.iconst 0, 1) := by decide +kernel
theorem d_MWorld_entities_1 : decode y_MWorld_entities.2.1 1 = .ok (.istore_n 1, 1) := by decide +kernel
theorem d_MWorld_entities_2 : decode y_MWorld_entities.2.1 2 = .ok (.iconst 0, 1) := by decide +kernel
theorem d_MWorld_entities_3 : decode y_MWorld_entities.2.1 3 = .ok (.istore_n 2, 1) := by decide +kernel
theorem d_MWorld_entities_4 : decode y_MWorld_entities.2.1 4 = .ok (.iload_n 2, 1) := by decide +kernel
theorem d_MWorld_entities_5 : decode y_MWorld_entities.2.1 5 = .ok (.sipush 256, 3) := by decide +kernel
theorem d_MWorld_entities_8 : decode y_MWorld_entities.2.1 8 = .ok (.if_icmp .ge 26, 3) := by decide +kernel
theorem d_MWorld_entities_11 : decode y_MWorld_entities.2.1 11 = .ok (.iload_n 1, 1) := by decide +kernel
theorem d_MWorld_entities_12 : decode y_MWorld_entities.2.1 12 = .ok (.aload_n 0, 1) := by decide +kernel
theorem d_MWorld_entities_13 : decode y_MWorld_entities.2.1 13 = .ok (.getfield 15, 3) := by decide +kernel
theorem d_MWorld_entities_16 : decode y_MWorld_entities.2.1 16 = .ok (.iload_n 2, 1) := by decide +kernel
theorem d_MWorld_entities_17 : decode y_MWorld_entities.2.1 17 = .ok (.baload, 1) := by decide +kernel
theorem d_MWorld_entities_18 : decode y_MWorld_entities.2.1 18 = .ok (.ifCond .eq 7, 3) := by decide +kernel
theorem d_MWorld_entities_21 : decode y_MWorld_entities.2.1 21 = .ok (.iconst 1, 1) := by decide +kernel
theorem d_MWorld_entities_22 : decode y_MWorld_entities.2.1 22 = .ok (.goto 4, 3) := by decide +kernel
theorem d_MWorld_entities_25 : decode y_MWorld_entities.2.1 25 = .ok (.iconst 0, 1) := by decide +kernel
theorem d_MWorld_entities_26 : decode y_MWorld_entities.2.1 26 = .ok (.iadd, 1) := by decide +kernel
theorem d_MWorld_entities_27 : decode y_MWorld_entities.2.1 27 = .ok (.istore_n 1, 1) := by decide +kernel
theorem d_MWorld_entities_28 : decode y_MWorld_entities.2.1 28 = .ok (.iinc 2 1, 3) := by decide +kernel
theorem d_MWorld_entities_31 : decode y_MWorld_entities.2.1 31 = .ok (.goto (-27), 3) := by decide +kernel
theorem d_MWorld_entities_34 : decode y_MWorld_entities.2.1 34 = .ok (.iload_n 1, 1) := by decide +kernel
theorem d_MWorld_entities_35 : decode y_MWorld_entities.2.1 35 = .ok (.ireturn, 1) := by decide +kernel
def y_MText_reads : ab_Y := (⟨"WorldEngineModel$Text", "reads", "([BI)V"⟩, prog_16_method_24_code, 4, none, [])
theorem d_MText_reads_0 : decode y_MText_reads.2.1 0 = .ok (.aload_n 0, 1) := by decide +kernel
theorem d_MText_reads_1 : decode y_MText_reads.2.1 1 = .ok (.aload_n 1, 1) := by decide +kernel
theorem d_MText_reads_2 : decode y_MText_reads.2.1 2 = .ok (.iload_n 2, 1) := by decide +kernel
theorem d_MText_reads_3 : decode y_MText_reads.2.1 3 = .ok (.invokevirtual 212, 3) := by decide +kernel
theorem d_MText_reads_6 : decode y_MText_reads.2.1 6 = .ok (.aload_n 0, 1) := by decide +kernel
theorem d_MText_reads_7 : decode y_MText_reads.2.1 7 = .ok (.iconst 0, 1) := by decide +kernel
theorem d_MText_reads_8 : decode y_MText_reads.2.1 8 = .ok (.putfield 185, 3) := by decide +kernel
theorem d_MText_reads_11 : decode y_MText_reads.2.1 11 = .ok (.aload_n 0, 1) := by decide +kernel
theorem d_MText_reads_12 : decode y_MText_reads.2.1 12 = .ok (.iconst 0, 1) := by decide +kernel
theorem d_MText_reads_13 : decode y_MText_reads.2.1 13 = .ok (.putfield 188, 3) := by decide +kernel
theorem d_MText_reads_16 : decode y_MText_reads.2.1 16 = .ok (.aload_n 0, 1) := by decide +kernel
theorem d_MText_reads_17 : decode y_MText_reads.2.1 17 = .ok (.iconst 0, 1) := by decide +kernel
theorem d_MText_reads_18 : decode y_MText_reads.2.1 18 = .ok (.putfield 191, 3) := by decide +kernel
theorem d_MText_reads_21 : decode y_MText_reads.2.1 21 = .ok (.aload_n 0, 1) := by decide +kernel
theorem d_MText_reads_22 : decode y_MText_reads.2.1 22 = .ok (.iconst 0, 1) := by decide +kernel
theorem d_MText_reads_23 : decode y_MText_reads.2.1 23 = .ok (.putfield 167, 3) := by decide +kernel
theorem d_MText_reads_26 : decode y_MText_reads.2.1 26 = .ok (.aload_n 0, 1) := by decide +kernel
theorem d_MText_reads_27 : decode y_MText_reads.2.1 27 = .ok (.iconst 0, 1) := by decide +kernel
theorem d_MText_reads_28 : decode y_MText_reads.2.1 28 = .ok (.putfield 216, 3) := by decide +kernel
theorem d_MText_reads_31 : decode y_MText_reads.2.1 31 = .ok (.aload_n 0, 1) := by decide +kernel
theorem d_MText_reads_32 : decode y_MText_reads.2.1 32 = .ok (.getfield 47, 3) := by decide +kernel
theorem d_MText_reads_35 : decode y_MText_reads.2.1 35 = .ok (.iconst 0, 1) := by decide +kernel
theorem d_MText_reads_36 : decode y_MText_reads.2.1 36 = .ok (.iconst 0, 1) := by decide +kernel
theorem d_MText_reads_37 : decode y_MText_reads.2.1 37 = .ok (.iastore, 1) := by decide +kernel
theorem d_MText_reads_38 : decode y_MText_reads.2.1 38 = .ok (.aload_n 0, 1) := by decide +kernel
theorem d_MText_reads_39 : decode y_MText_reads.2.1 39 = .ok (.iconst 0, 1) := by decide +kernel
theorem d_MText_reads_40 : decode y_MText_reads.2.1 40 = .ok (.putfield 219, 3) := by decide +kernel
theorem d_MText_reads_43 : decode y_MText_reads.2.1 43 = .ok (.aload_n 0, 1) := by decide +kernel
theorem d_MText_reads_44 : decode y_MText_reads.2.1 44 = .ok (.iconst 0, 1) := by decide +kernel
theorem d_MText_reads_45 : decode y_MText_reads.2.1 45 = .ok (.putfield 222, 3) := by decide +kernel
theorem d_MText_reads_48 : decode y_MText_reads.2.1 48 = .ok (.aload_n 0, 1) := by decide +kernel
theorem d_MText_reads_49 : decode y_MText_reads.2.1 49 = .ok (.iconst 0, 1) := by decide +kernel
theorem d_MText_reads_50 : decode y_MText_reads.2.1 50 = .ok (.putfield 182, 3) := by decide +kernel
theorem d_MText_reads_53 : decode y_MText_reads.2.1 53 = .ok (.aload_n 0, 1) := by decide +kernel
theorem d_MText_reads_54 : decode y_MText_reads.2.1 54 = .ok (.getfield 185, 3) := by decide +kernel
theorem d_MText_reads_57 : decode y_MText_reads.2.1 57 = .ok (.ifCond .ne 88, 3) := by decide +kernel
theorem d_MText_reads_60 : decode y_MText_reads.2.1 60 = .ok (.aload_n 0, 1) := by decide +kernel
theorem d_MText_reads_61 : decode y_MText_reads.2.1 61 = .ok (.getfield 15, 3) := by decide +kernel
theorem d_MText_reads_64 : decode y_MText_reads.2.1 64 = .ok (.aload_n 0, 1) := by decide +kernel
theorem d_MText_reads_65 : decode y_MText_reads.2.1 65 = .ok (.getfield 191, 3) := by decide +kernel
theorem d_MText_reads_68 : decode y_MText_reads.2.1 68 = .ok (.iaload, 1) := by decide +kernel
theorem d_MText_reads_69 : decode y_MText_reads.2.1 69 = .ok (.ifCond .eq 76, 3) := by decide +kernel
theorem d_MText_reads_72 : decode y_MText_reads.2.1 72 = .ok (.aload_n 0, 1) := by decide +kernel
theorem d_MText_reads_73 : decode y_MText_reads.2.1 73 = .ok (.getfield 15, 3) := by decide +kernel
theorem d_MText_reads_76 : decode y_MText_reads.2.1 76 = .ok (.aload_n 0, 1) := by decide +kernel
theorem d_MText_reads_77 : decode y_MText_reads.2.1 77 = .ok (.getfield 191, 3) := by decide +kernel
theorem d_MText_reads_80 : decode y_MText_reads.2.1 80 = .ok (.iaload, 1) := by decide +kernel
theorem d_MText_reads_81 : decode y_MText_reads.2.1 81 = .ok (.sipush 200, 3) := by decide +kernel
theorem d_MText_reads_84 : decode y_MText_reads.2.1 84 = .ok (.isub, 1) := by decide +kernel
theorem d_MText_reads_85 : decode y_MText_reads.2.1 85 = .ok (.istore_n 3, 1) := by decide +kernel
theorem d_MText_reads_86 : decode y_MText_reads.2.1 86 = .ok (.iload_n 3, 1) := by decide +kernel
theorem d_MText_reads_87 : decode y_MText_reads.2.1 87 = .ok (.ifCond .ne 10, 3) := by decide +kernel
theorem d_MText_reads_90 : decode y_MText_reads.2.1 90 = .ok (.aload_n 0, 1) := by decide +kernel
theorem d_MText_reads_91 : decode y_MText_reads.2.1 91 = .ok (.invokevirtual 225, 3) := by decide +kernel
theorem d_MText_reads_94 : decode y_MText_reads.2.1 94 = .ok (.goto 48, 3) := by decide +kernel
theorem d_MText_reads_97 : decode y_MText_reads.2.1 97 = .ok (.iload_n 3, 1) := by decide +kernel
theorem d_MText_reads_98 : decode y_MText_reads.2.1 98 = .ok (.iconst 1, 1) := by decide +kernel
theorem d_MText_reads_99 : decode y_MText_reads.2.1 99 = .ok (.if_icmp .ne 10, 3) := by decide +kernel
theorem d_MText_reads_102 : decode y_MText_reads.2.1 102 = .ok (.aload_n 0, 1) := by decide +kernel
theorem d_MText_reads_103 : decode y_MText_reads.2.1 103 = .ok (.invokevirtual 228, 3) := by decide +kernel
theorem d_MText_reads_106 : decode y_MText_reads.2.1 106 = .ok (.goto 36, 3) := by decide +kernel
theorem d_MText_reads_109 : decode y_MText_reads.2.1 109 = .ok (.iload_n 3, 1) := by decide +kernel
theorem d_MText_reads_110 : decode y_MText_reads.2.1 110 = .ok (.iconst 2, 1) := by decide +kernel
theorem d_MText_reads_111 : decode y_MText_reads.2.1 111 = .ok (.if_icmp .ne 10, 3) := by decide +kernel
theorem d_MText_reads_114 : decode y_MText_reads.2.1 114 = .ok (.aload_n 0, 1) := by decide +kernel
theorem d_MText_reads_115 : decode y_MText_reads.2.1 115 = .ok (.invokevirtual 231, 3) := by decide +kernel
theorem d_MText_reads_118 : decode y_MText_reads.2.1 118 = .ok (.goto 24, 3) := by decide +kernel
theorem d_MText_reads_121 : decode y_MText_reads.2.1 121 = .ok (.iload_n 3, 1) := by decide +kernel
theorem d_MText_reads_122 : decode y_MText_reads.2.1 122 = .ok (.iconst 3, 1) := by decide +kernel
theorem d_MText_reads_123 : decode y_MText_reads.2.1 123 = .ok (.if_icmp .ne 10, 3) := by decide +kernel
theorem d_MText_reads_126 : decode y_MText_reads.2.1 126 = .ok (.aload_n 0, 1) := by decide +kernel
theorem d_MText_reads_127 : decode y_MText_reads.2.1 127 = .ok (.invokevirtual 234, 3) := by decide +kernel
theorem d_MText_reads_130 : decode y_MText_reads.2.1 130 = .ok (.goto 12, 3) := by decide +kernel
theorem d_MText_reads_133 : decode y_MText_reads.2.1 133 = .ok (.aload_n 0, 1) := by decide +kernel
theorem d_MText_reads_134 : decode y_MText_reads.2.1 134 = .ok (.iconst 1, 1) := by decide +kernel
theorem d_MText_reads_135 : decode y_MText_reads.2.1 135 = .ok (.aload_n 0, 1) := by decide +kernel
theorem d_MText_reads_136 : decode y_MText_reads.2.1 136 = .ok (.getfield 191, 3) := by decide +kernel
theorem d_MText_reads_139 : decode y_MText_reads.2.1 139 = .ok (.invokevirtual 200, 3) := by decide +kernel
theorem d_MText_reads_142 : decode y_MText_reads.2.1 142 = .ok (.goto (-89), 3) := by decide +kernel
theorem d_MText_reads_145 : decode y_MText_reads.2.1 145 = .ok (.aload_n 0, 1) := by decide +kernel
theorem d_MText_reads_146 : decode y_MText_reads.2.1 146 = .ok (.getfield 185, 3) := by decide +kernel
theorem d_MText_reads_149 : decode y_MText_reads.2.1 149 = .ok (.ifCond .ne 7, 3) := by decide +kernel
theorem d_MText_reads_152 : decode y_MText_reads.2.1 152 = .ok (.aload_n 0, 1) := by decide +kernel
theorem d_MText_reads_153 : decode y_MText_reads.2.1 153 = .ok (.invokevirtual 237, 3) := by decide +kernel
theorem d_MText_reads_156 : decode y_MText_reads.2.1 156 = .ok (.return_, 1) := by decide +kernel
def y_MText_scans : ab_Y := (⟨"WorldEngineModel$Text", "scans", "([BI)V"⟩, prog_16_method_6_code, 6, none, [])
theorem d_MText_scans_0 : decode y_MText_scans.2.1 0 = .ok (.aload_n 0, 1) := by decide +kernel
theorem d_MText_scans_1 : decode y_MText_scans.2.1 1 = .ok (.iload_n 2, 1) := by decide +kernel
theorem d_MText_scans_2 : decode y_MText_scans.2.1 2 = .ok (.putfield 104, 3) := by decide +kernel
theorem d_MText_scans_5 : decode y_MText_scans.2.1 5 = .ok (.iconst 0, 1) := by decide +kernel
theorem d_MText_scans_6 : decode y_MText_scans.2.1 6 = .ok (.istore_n 3, 1) := by decide +kernel
theorem d_MText_scans_7 : decode y_MText_scans.2.1 7 = .ok (.iload_n 3, 1) := by decide +kernel
theorem d_MText_scans_8 : decode y_MText_scans.2.1 8 = .ok (.iload_n 2, 1) := by decide +kernel
theorem d_MText_scans_9 : decode y_MText_scans.2.1 9 = .ok (.if_icmp .ge 18, 3) := by decide +kernel
theorem d_MText_scans_12 : decode y_MText_scans.2.1 12 = .ok (.aload_n 0, 1) := by decide +kernel
theorem d_MText_scans_13 : decode y_MText_scans.2.1 13 = .ok (.getfield 11, 3) := by decide +kernel
theorem d_MText_scans_16 : decode y_MText_scans.2.1 16 = .ok (.iload_n 3, 1) := by decide +kernel
theorem d_MText_scans_17 : decode y_MText_scans.2.1 17 = .ok (.aload_n 1, 1) := by decide +kernel
theorem d_MText_scans_18 : decode y_MText_scans.2.1 18 = .ok (.iload_n 3, 1) := by decide +kernel
theorem d_MText_scans_19 : decode y_MText_scans.2.1 19 = .ok (.baload, 1) := by decide +kernel
theorem d_MText_scans_20 : decode y_MText_scans.2.1 20 = .ok (.bastore, 1) := by decide +kernel
theorem d_MText_scans_21 : decode y_MText_scans.2.1 21 = .ok (.iinc 3 1, 3) := by decide +kernel
theorem d_MText_scans_24 : decode y_MText_scans.2.1 24 = .ok (.goto (-17), 3) := by decide +kernel
theorem d_MText_scans_27 : decode y_MText_scans.2.1 27 = .ok (.aload_n 0, 1) := by decide +kernel
theorem d_MText_scans_28 : decode y_MText_scans.2.1 28 = .ok (.iconst 0, 1) := by decide +kernel
theorem d_MText_scans_29 : decode y_MText_scans.2.1 29 = .ok (.putfield 108, 3) := by decide +kernel
theorem d_MText_scans_32 : decode y_MText_scans.2.1 32 = .ok (.iconst 0, 1) := by decide +kernel
theorem d_MText_scans_33 : decode y_MText_scans.2.1 33 = .ok (.istore_n 3, 1) := by decide +kernel
theorem d_MText_scans_34 : decode y_MText_scans.2.1 34 = .ok (.iconst 1, 1) := by decide +kernel
theorem d_MText_scans_35 : decode y_MText_scans.2.1 35 = .ok (.istore 4, 2) := by decide +kernel
theorem d_MText_scans_37 : decode y_MText_scans.2.1 37 = .ok (.iload 4, 2) := by decide +kernel
theorem d_MText_scans_39 : decode y_MText_scans.2.1 39 = .ok (.ifCond .eq 117, 3) := by decide +kernel
theorem d_MText_scans_42 : decode y_MText_scans.2.1 42 = .ok (.aload_n 0, 1) := by decide +kernel
theorem d_MText_scans_43 : decode y_MText_scans.2.1 43 = .ok (.iload_n 3, 1) := by decide +kernel
theorem d_MText_scans_44 : decode y_MText_scans.2.1 44 = .ok (.invokevirtual 111, 3) := by decide +kernel
theorem d_MText_scans_47 : decode y_MText_scans.2.1 47 = .ok (.istore_n 3, 1) := by decide +kernel
theorem d_MText_scans_48 : decode y_MText_scans.2.1 48 = .ok (.aload_n 0, 1) := by decide +kernel
theorem d_MText_scans_49 : decode y_MText_scans.2.1 49 = .ok (.iload_n 3, 1) := by decide +kernel
theorem d_MText_scans_50 : decode y_MText_scans.2.1 50 = .ok (.invokevirtual 115, 3) := by decide +kernel
theorem d_MText_scans_53 : decode y_MText_scans.2.1 53 = .ok (.istore 5, 2) := by decide +kernel
theorem d_MText_scans_55 : decode y_MText_scans.2.1 55 = .ok (.iload_n 3, 1) := by decide +kernel
theorem d_MText_scans_56 : decode y_MText_scans.2.1 56 = .ok (.aload_n 0, 1) := by decide +kernel
theorem d_MText_scans_57 : decode y_MText_scans.2.1 57 = .ok (.getfield 104, 3) := by decide +kernel
theorem d_MText_scans_60 : decode y_MText_scans.2.1 60 = .ok (.if_icmp .lt 22, 3) := by decide +kernel
theorem d_MText_scans_63 : decode y_MText_scans.2.1 63 = .ok (.aload_n 0, 1) := by decide +kernel
theorem d_MText_scans_64 : decode y_MText_scans.2.1 64 = .ok (.iconst 0, 1) := by decide +kernel
theorem d_MText_scans_65 : decode y_MText_scans.2.1 65 = .ok (.aload_n 0, 1) := by decide +kernel
theorem d_MText_scans_66 : decode y_MText_scans.2.1 66 = .ok (.getfield 104, 3) := by decide +kernel
theorem d_MText_scans_69 : decode y_MText_scans.2.1 69 = .ok (.aload_n 0, 1) := by decide +kernel
theorem d_MText_scans_70 : decode y_MText_scans.2.1 70 = .ok (.getfield 104, 3) := by decide +kernel
theorem d_MText_scans_73 : decode y_MText_scans.2.1 73 = .ok (.invokevirtual 118, 3) := by decide +kernel
theorem d_MText_scans_76 : decode y_MText_scans.2.1 76 = .ok (.iconst 0, 1) := by decide +kernel
theorem d_MText_scans_77 : decode y_MText_scans.2.1 77 = .ok (.istore 4, 2) := by decide +kernel
theorem d_MText_scans_79 : decode y_MText_scans.2.1 79 = .ok (.goto 74, 3) := by decide +kernel
theorem d_MText_scans_82 : decode y_MText_scans.2.1 82 = .ok (.iload 5, 2) := by decide +kernel
theorem d_MText_scans_84 : decode y_MText_scans.2.1 84 = .ok (.invokestatic 122, 3) := by decide +kernel
theorem d_MText_scans_87 : decode y_MText_scans.2.1 87 = .ok (.ifCond .eq 12, 3) := by decide +kernel
theorem d_MText_scans_90 : decode y_MText_scans.2.1 90 = .ok (.aload_n 0, 1) := by decide +kernel
theorem d_MText_scans_91 : decode y_MText_scans.2.1 91 = .ok (.iload_n 3, 1) := by decide +kernel
theorem d_MText_scans_92 : decode y_MText_scans.2.1 92 = .ok (.invokevirtual 126, 3) := by decide +kernel
theorem d_MText_scans_95 : decode y_MText_scans.2.1 95 = .ok (.istore_n 3, 1) := by decide +kernel
theorem d_MText_scans_96 : decode y_MText_scans.2.1 96 = .ok (.goto 57, 3) := by decide +kernel
theorem d_MText_scans_99 : decode y_MText_scans.2.1 99 = .ok (.iload 5, 2) := by decide +kernel
theorem d_MText_scans_101 : decode y_MText_scans.2.1 101 = .ok (.invokestatic 129, 3) := by decide +kernel
theorem d_MText_scans_104 : decode y_MText_scans.2.1 104 = .ok (.ifCond .eq 12, 3) := by decide +kernel
theorem d_MText_scans_107 : decode y_MText_scans.2.1 107 = .ok (.aload_n 0, 1) := by decide +kernel
theorem d_MText_scans_108 : decode y_MText_scans.2.1 108 = .ok (.iload_n 3, 1) := by decide +kernel
theorem d_MText_scans_109 : decode y_MText_scans.2.1 109 = .ok (.invokevirtual 132, 3) := by decide +kernel
theorem d_MText_scans_112 : decode y_MText_scans.2.1 112 = .ok (.istore_n 3, 1) := by decide +kernel
theorem d_MText_scans_113 : decode y_MText_scans.2.1 113 = .ok (.goto 40, 3) := by decide +kernel
theorem d_MText_scans_116 : decode y_MText_scans.2.1 116 = .ok (.aload_n 0, 1) := by decide +kernel
theorem d_MText_scans_117 : decode y_MText_scans.2.1 117 = .ok (.iload_n 3, 1) := by decide +kernel
theorem d_MText_scans_118 : decode y_MText_scans.2.1 118 = .ok (.iload 5, 2) := by decide +kernel
theorem d_MText_scans_120 : decode y_MText_scans.2.1 120 = .ok (.aload_n 0, 1) := by decide +kernel
theorem d_MText_scans_121 : decode y_MText_scans.2.1 121 = .ok (.iload_n 3, 1) := by decide +kernel
theorem d_MText_scans_122 : decode y_MText_scans.2.1 122 = .ok (.iconst 1, 1) := by decide +kernel
theorem d_MText_scans_123 : decode y_MText_scans.2.1 123 = .ok (.iadd, 1) := by decide +kernel
theorem d_MText_scans_124 : decode y_MText_scans.2.1 124 = .ok (.invokevirtual 115, 3) := by decide +kernel
theorem d_MText_scans_127 : decode y_MText_scans.2.1 127 = .ok (.invokevirtual 135, 3) := by decide +kernel
theorem d_MText_scans_130 : decode y_MText_scans.2.1 130 = .ok (.istore_n 3, 1) := by decide +kernel
theorem d_MText_scans_131 : decode y_MText_scans.2.1 131 = .ok (.aload_n 0, 1) := by decide +kernel
theorem d_MText_scans_132 : decode y_MText_scans.2.1 132 = .ok (.getfield 15, 3) := by decide +kernel
theorem d_MText_scans_135 : decode y_MText_scans.2.1 135 = .ok (.aload_n 0, 1) := by decide +kernel
theorem d_MText_scans_136 : decode y_MText_scans.2.1 136 = .ok (.getfield 108, 3) := by decide +kernel
theorem d_MText_scans_139 : decode y_MText_scans.2.1 139 = .ok (.iconst 1, 1) := by decide +kernel
theorem d_MText_scans_140 : decode y_MText_scans.2.1 140 = .ok (.isub, 1) := by decide +kernel
theorem d_MText_scans_141 : decode y_MText_scans.2.1 141 = .ok (.iaload, 1) := by decide +kernel
theorem d_MText_scans_142 : decode y_MText_scans.2.1 142 = .ok (.iconst 4, 1) := by decide +kernel
theorem d_MText_scans_143 : decode y_MText_scans.2.1 143 = .ok (.if_icmp .eq 7, 3) := by decide +kernel
theorem d_MText_scans_146 : decode y_MText_scans.2.1 146 = .ok (.iconst 1, 1) := by decide +kernel
theorem d_MText_scans_147 : decode y_MText_scans.2.1 147 = .ok (.goto 4, 3) := by decide +kernel
theorem d_MText_scans_150 : decode y_MText_scans.2.1 150 = .ok (.iconst 0, 1) := by decide +kernel
theorem d_MText_scans_151 : decode y_MText_scans.2.1 151 = .ok (.istore 4, 2) := by decide +kernel
theorem d_MText_scans_153 : decode y_MText_scans.2.1 153 = .ok (.goto (-116), 3) := by decide +kernel
theorem d_MText_scans_156 : decode y_MText_scans.2.1 156 = .ok (.return_, 1) := by decide +kernel
def y_MText_skips : ab_Y := (⟨"WorldEngineModel$Text", "skips", "(I)I"⟩, prog_16_method_7_code, 5, (some FieldType.int), [])
theorem d_MText_skips_0 : decode y_MText_skips.2.1 0 = .ok (.iload_n 1, 1) := by decide +kernel
theorem d_MText_skips_1 : decode y_MText_skips.2.1 1 = .ok (.istore_n 2, 1) := by decide +kernel
theorem d_MText_skips_2 : decode y_MText_skips.2.1 2 = .ok (.iconst 1, 1) := by decide +kernel
theorem d_MText_skips_3 : decode y_MText_skips.2.1 3 = .ok (.istore_n 3, 1) := by decide +kernel
theorem d_MText_skips_4 : decode y_MText_skips.2.1 4 = .ok (.iload_n 3, 1) := by decide +kernel
theorem d_MText_skips_5 : decode y_MText_skips.2.1 5 = .ok (.ifCond .eq 100, 3) := by decide +kernel
theorem d_MText_skips_8 : decode y_MText_skips.2.1 8 = .ok (.iload_n 2, 1) := by decide +kernel
theorem d_MText_skips_9 : decode y_MText_skips.2.1 9 = .ok (.aload_n 0, 1) := by decide +kernel
theorem d_MText_skips_10 : decode y_MText_skips.2.1 10 = .ok (.getfield 104, 3) := by decide +kernel
theorem d_MText_skips_13 : decode y_MText_skips.2.1 13 = .ok (.if_icmp .ge 92, 3) := by decide +kernel
theorem d_MText_skips_16 : decode y_MText_skips.2.1 16 = .ok (.aload_n 0, 1) := by decide +kernel
theorem d_MText_skips_17 : decode y_MText_skips.2.1 17 = .ok (.getfield 11, 3) := by decide +kernel
theorem d_MText_skips_20 : decode y_MText_skips.2.1 20 = .ok (.iload_n 2, 1) := by decide +kernel
theorem d_MText_skips_21 : decode y_MText_skips.2.1 21 = .ok (.baload, 1) := by decide +kernel
theorem d_MText_skips_22 : decode y_MText_skips.2.1 22 = .ok (.istore 4, 2) := by decide +kernel
theorem d_MText_skips_24 : decode y_MText_skips.2.1 24 = .ok (.iload 4, 2) := by decide +kernel
theorem d_MText_skips_26 : decode y_MText_skips.2.1 26 = .ok (.bipush 35, 2) := by decide +kernel
theorem d_MText_skips_28 : decode y_MText_skips.2.1 28 = .ok (.if_icmp .ne 28, 3) := by decide +kernel
theorem d_MText_skips_31 : decode y_MText_skips.2.1 31 = .ok (.iload_n 2, 1) := by decide +kernel
theorem d_MText_skips_32 : decode y_MText_skips.2.1 32 = .ok (.aload_n 0, 1) := by decide +kernel
theorem d_MText_skips_33 : decode y_MText_skips.2.1 33 = .ok (.getfield 104, 3) := by decide +kernel
theorem d_MText_skips_36 : decode y_MText_skips.2.1 36 = .ok (.if_icmp .ge 66, 3) := by decide +kernel
theorem d_MText_skips_39 : decode y_MText_skips.2.1 39 = .ok (.aload_n 0, 1) := by decide +kernel
theorem d_MText_skips_40 : decode y_MText_skips.2.1 40 = .ok (.getfield 11, 3) := by decide +kernel
theorem d_MText_skips_43 : decode y_MText_skips.2.1 43 = .ok (.iload_n 2, 1) := by decide +kernel
theorem d_MText_skips_44 : decode y_MText_skips.2.1 44 = .ok (.baload, 1) := by decide +kernel
theorem d_MText_skips_45 : decode y_MText_skips.2.1 45 = .ok (.bipush 10, 2) := by decide +kernel
theorem d_MText_skips_47 : decode y_MText_skips.2.1 47 = .ok (.if_icmp .eq 55, 3) := by decide +kernel
theorem d_MText_skips_50 : decode y_MText_skips.2.1 50 = .ok (.iinc 2 1, 3) := by decide +kernel
theorem d_MText_skips_53 : decode y_MText_skips.2.1 53 = .ok (.goto (-22), 3) := by decide +kernel
theorem d_MText_skips_56 : decode y_MText_skips.2.1 56 = .ok (.iload 4, 2) := by decide +kernel
theorem d_MText_skips_58 : decode y_MText_skips.2.1 58 = .ok (.bipush 9, 2) := by decide +kernel
theorem d_MText_skips_60 : decode y_MText_skips.2.1 60 = .ok (.if_icmp .eq 24, 3) := by decide +kernel
theorem d_MText_skips_63 : decode y_MText_skips.2.1 63 = .ok (.iload 4, 2) := by decide +kernel
theorem d_MText_skips_65 : decode y_MText_skips.2.1 65 = .ok (.bipush 10, 2) := by decide +kernel
theorem d_MText_skips_67 : decode y_MText_skips.2.1 67 = .ok (.if_icmp .eq 17, 3) := by decide +kernel
theorem d_MText_skips_70 : decode y_MText_skips.2.1 70 = .ok (.iload 4, 2) := by decide +kernel
theorem d_MText_skips_72 : decode y_MText_skips.2.1 72 = .ok (.bipush 13, 2) := by decide +kernel
theorem d_MText_skips_74 : decode y_MText_skips.2.1 74 = .ok (.if_icmp .eq 10, 3) := by decide +kernel
theorem d_MText_skips_77 : decode y_MText_skips.2.1 77 = .ok (.iload 4, 2) := by decide +kernel
theorem d_MText_skips_79 : decode y_MText_skips.2.1 79 = .ok (.bipush 32, 2) := by decide +kernel
theorem d_MText_skips_81 : decode y_MText_skips.2.1 81 = .ok (.if_icmp .ne 7, 3) := by decide +kernel
theorem d_MText_skips_84 : decode y_MText_skips.2.1 84 = .ok (.iconst 1, 1) := by decide +kernel
theorem d_MText_skips_85 : decode y_MText_skips.2.1 85 = .ok (.goto 4, 3) := by decide +kernel
theorem d_MText_skips_88 : decode y_MText_skips.2.1 88 = .ok (.iconst 0, 1) := by decide +kernel
theorem d_MText_skips_89 : decode y_MText_skips.2.1 89 = .ok (.istore_n 3, 1) := by decide +kernel
theorem d_MText_skips_90 : decode y_MText_skips.2.1 90 = .ok (.iload_n 2, 1) := by decide +kernel
theorem d_MText_skips_91 : decode y_MText_skips.2.1 91 = .ok (.iload_n 3, 1) := by decide +kernel
theorem d_MText_skips_92 : decode y_MText_skips.2.1 92 = .ok (.ifCond .eq 7, 3) := by decide +kernel
theorem d_MText_skips_95 : decode y_MText_skips.2.1 95 = .ok (.iconst 1, 1) := by decide +kernel
theorem d_MText_skips_96 : decode y_MText_skips.2.1 96 = .ok (.goto 4, 3) := by decide +kernel
theorem d_MText_skips_99 : decode y_MText_skips.2.1 99 = .ok (.iconst 0, 1) := by decide +kernel
theorem d_MText_skips_100 : decode y_MText_skips.2.1 100 = .ok (.iadd, 1) := by decide +kernel
theorem d_MText_skips_101 : decode y_MText_skips.2.1 101 = .ok (.istore_n 2, 1) := by decide +kernel
theorem d_MText_skips_102 : decode y_MText_skips.2.1 102 = .ok (.goto (-98), 3) := by decide +kernel
theorem d_MText_skips_105 : decode y_MText_skips.2.1 105 = .ok (.iload_n 2, 1) := by decide +kernel
theorem d_MText_skips_106 : decode y_MText_skips.2.1 106 = .ok (.ireturn, 1) := by decide +kernel
def y_MText_letter : ab_Y := (⟨"WorldEngineModel$Text", "letter", "(I)I"⟩, prog_16_method_4_code, 2, (some FieldType.int), [])
theorem d_MText_letter_0 : decode y_MText_letter.2.1 0 = .ok (.iload_n 1, 1) := by decide +kernel
theorem d_MText_letter_1 : decode y_MText_letter.2.1 1 = .ok (.aload_n 0, 1) := by decide +kernel
theorem d_MText_letter_2 : decode y_MText_letter.2.1 2 = .ok (.getfield 104, 3) := by decide +kernel
theorem d_MText_letter_5 : decode y_MText_letter.2.1 5 = .ok (.if_icmp .ge 12, 3) := by decide +kernel
theorem d_MText_letter_8 : decode y_MText_letter.2.1 8 = .ok (.aload_n 0, 1) := by decide +kernel
theorem d_MText_letter_9 : decode y_MText_letter.2.1 9 = .ok (.getfield 11, 3) := by decide +kernel
theorem d_MText_letter_12 : decode y_MText_letter.2.1 12 = .ok (.iload_n 1, 1) := by decide +kernel
theorem d_MText_letter_13 : decode y_MText_letter.2.1 13 = .ok (.baload, 1) := by decide +kernel
theorem d_MText_letter_14 : decode y_MText_letter.2.1 14 = .ok (.goto 4, 3) := by decide +kernel
theorem d_MText_letter_17 : decode y_MText_letter.2.1 17 = .ok (.iconst 0, 1) := by decide +kernel
theorem d_MText_letter_18 : decode y_MText_letter.2.1 18 = .ok (.ireturn, 1) := by decide +kernel
def y_MText_token : ab_Y := (⟨"WorldEngineModel$Text", "token", "(III)V"⟩, prog_16_method_5_code, 4, none, [])
theorem d_MText_token_0 : decode y_MText_token.2.1 0 = .ok (.aload_n 0, 1) := by decide +kernel
theorem d_MText_token_1 : decode y_MText_token.2.1 1 = .ok (.getfield 15, 3) := by decide +kernel
theorem d_MText_token_4 : decode y_MText_token.2.1 4 = .ok (.aload_n 0, 1) := by decide +kernel
theorem d_MText_token_5 : decode y_MText_token.2.1 5 = .ok (.getfield 108, 3) := by decide +kernel
theorem d_MText_token_8 : decode y_MText_token.2.1 8 = .ok (.iload_n 1, 1) := by decide +kernel
theorem d_MText_token_9 : decode y_MText_token.2.1 9 = .ok (.iastore, 1) := by decide +kernel
theorem d_MText_token_10 : decode y_MText_token.2.1 10 = .ok (.aload_n 0, 1) := by decide +kernel
theorem d_MText_token_11 : decode y_MText_token.2.1 11 = .ok (.getfield 19, 3) := by decide +kernel
theorem d_MText_token_14 : decode y_MText_token.2.1 14 = .ok (.aload_n 0, 1) := by decide +kernel
theorem d_MText_token_15 : decode y_MText_token.2.1 15 = .ok (.getfield 108, 3) := by decide +kernel
theorem d_MText_token_18 : decode y_MText_token.2.1 18 = .ok (.iload_n 2, 1) := by decide +kernel
theorem d_MText_token_19 : decode y_MText_token.2.1 19 = .ok (.iastore, 1) := by decide +kernel
theorem d_MText_token_20 : decode y_MText_token.2.1 20 = .ok (.aload_n 0, 1) := by decide +kernel
theorem d_MText_token_21 : decode y_MText_token.2.1 21 = .ok (.getfield 22, 3) := by decide +kernel
theorem d_MText_token_24 : decode y_MText_token.2.1 24 = .ok (.aload_n 0, 1) := by decide +kernel
theorem d_MText_token_25 : decode y_MText_token.2.1 25 = .ok (.getfield 108, 3) := by decide +kernel
theorem d_MText_token_28 : decode y_MText_token.2.1 28 = .ok (.iload_n 3, 1) := by decide +kernel
theorem d_MText_token_29 : decode y_MText_token.2.1 29 = .ok (.iload_n 2, 1) := by decide +kernel
theorem d_MText_token_30 : decode y_MText_token.2.1 30 = .ok (.isub, 1) := by decide +kernel
theorem d_MText_token_31 : decode y_MText_token.2.1 31 = .ok (.iastore, 1) := by decide +kernel
theorem d_MText_token_32 : decode y_MText_token.2.1 32 = .ok (.aload_n 0, 1) := by decide +kernel
theorem d_MText_token_33 : decode y_MText_token.2.1 33 = .ok (.getfield 28, 3) := by decide +kernel
theorem d_MText_token_36 : decode y_MText_token.2.1 36 = .ok (.aload_n 0, 1) := by decide +kernel
theorem d_MText_token_37 : decode y_MText_token.2.1 37 = .ok (.getfield 108, 3) := by decide +kernel
theorem d_MText_token_40 : decode y_MText_token.2.1 40 = .ok (.iconst 0, 1) := by decide +kernel
theorem d_MText_token_41 : decode y_MText_token.2.1 41 = .ok (.bastore, 1) := by decide +kernel
theorem d_MText_token_42 : decode y_MText_token.2.1 42 = .ok (.aload_n 0, 1) := by decide +kernel
theorem d_MText_token_43 : decode y_MText_token.2.1 43 = .ok (.getfield 32, 3) := by decide +kernel
theorem d_MText_token_46 : decode y_MText_token.2.1 46 = .ok (.aload_n 0, 1) := by decide +kernel
theorem d_MText_token_47 : decode y_MText_token.2.1 47 = .ok (.getfield 108, 3) := by decide +kernel
theorem d_MText_token_50 : decode y_MText_token.2.1 50 = .ok (.iconst (-1), 1) := by decide +kernel
theorem d_MText_token_51 : decode y_MText_token.2.1 51 = .ok (.iastore, 1) := by decide +kernel
theorem d_MText_token_52 : decode y_MText_token.2.1 52 = .ok (.aload_n 0, 1) := by decide +kernel
theorem d_MText_token_53 : decode y_MText_token.2.1 53 = .ok (.dup, 1) := by decide +kernel
theorem d_MText_token_54 : decode y_MText_token.2.1 54 = .ok (.getfield 108, 3) := by decide +kernel
theorem d_MText_token_57 : decode y_MText_token.2.1 57 = .ok (.iconst 1, 1) := by decide +kernel
theorem d_MText_token_58 : decode y_MText_token.2.1 58 = .ok (.iadd, 1) := by decide +kernel
theorem d_MText_token_59 : decode y_MText_token.2.1 59 = .ok (.putfield 108, 3) := by decide +kernel
theorem d_MText_token_62 : decode y_MText_token.2.1 62 = .ok (.return_, 1) := by decide +kernel
def y_MText_groupsThem : ab_Y := (⟨"WorldEngineModel$Text", "groupsThem", "()V"⟩, prog_16_method_41_code, 6, none, [])
theorem d_MText_groupsThem_0 : decode y_MText_groupsThem.2.1 0 = .ok (.iconst 0, 1) := by decide +kernel
theorem d_MText_groupsThem_1 : decode y_MText_groupsThem.2.1 1 = .ok (.istore_n 1, 1) := by decide +kernel
theorem d_MText_groupsThem_2 : decode y_MText_groupsThem.2.1 2 = .ok (.iconst 0, 1) := by decide +kernel
theorem d_MText_groupsThem_3 : decode y_MText_groupsThem.2.1 3 = .ok (.istore_n 2, 1) := by decide +kernel
theorem d_MText_groupsThem_4 : decode y_MText_groupsThem.2.1 4 = .ok (.iconst 0, 1) := by decide +kernel
theorem d_MText_groupsThem_5 : decode y_MText_groupsThem.2.1 5 = .ok (.istore_n 3, 1) := by decide +kernel
theorem d_MText_groupsThem_6 : decode y_MText_groupsThem.2.1 6 = .ok (.iload_n 3, 1) := by decide +kernel
theorem d_MText_groupsThem_7 : decode y_MText_groupsThem.2.1 7 = .ok (.aload_n 0, 1) := by decide +kernel
theorem d_MText_groupsThem_8 : decode y_MText_groupsThem.2.1 8 = .ok (.getfield 182, 3) := by decide +kernel
theorem d_MText_groupsThem_11 : decode y_MText_groupsThem.2.1 11 = .ok (.if_icmp .ge 134, 3) := by decide +kernel
theorem d_MText_groupsThem_14 : decode y_MText_groupsThem.2.1 14 = .ok (.iconst 1, 1) := by decide +kernel
theorem d_MText_groupsThem_15 : decode y_MText_groupsThem.2.1 15 = .ok (.istore 4, 2) := by decide +kernel
theorem d_MText_groupsThem_17 : decode y_MText_groupsThem.2.1 17 = .ok (.iload_n 2, 1) := by decide +kernel
theorem d_MText_groupsThem_18 : decode y_MText_groupsThem.2.1 18 = .ok (.istore 5, 2) := by decide +kernel
theorem d_MText_groupsThem_20 : decode y_MText_groupsThem.2.1 20 = .ok (.iload 5, 2) := by decide +kernel
theorem d_MText_groupsThem_22 : decode y_MText_groupsThem.2.1 22 = .ok (.iload_n 3, 1) := by decide +kernel
theorem d_MText_groupsThem_23 : decode y_MText_groupsThem.2.1 23 = .ok (.if_icmp .ge 99, 3) := by decide +kernel
theorem d_MText_groupsThem_26 : decode y_MText_groupsThem.2.1 26 = .ok (.iload 4, 2) := by decide +kernel
theorem d_MText_groupsThem_28 : decode y_MText_groupsThem.2.1 28 = .ok (.ifCond .eq 85, 3) := by decide +kernel
theorem d_MText_groupsThem_31 : decode y_MText_groupsThem.2.1 31 = .ok (.aload_n 0, 1) := by decide +kernel
theorem d_MText_groupsThem_32 : decode y_MText_groupsThem.2.1 32 = .ok (.getfield 86, 3) := by decide +kernel
theorem d_MText_groupsThem_35 : decode y_MText_groupsThem.2.1 35 = .ok (.iload_n 3, 1) := by decide +kernel
theorem d_MText_groupsThem_36 : decode y_MText_groupsThem.2.1 36 = .ok (.iaload, 1) := by decide +kernel
theorem d_MText_groupsThem_37 : decode y_MText_groupsThem.2.1 37 = .ok (.iload 5, 2) := by decide +kernel
theorem d_MText_groupsThem_39 : decode y_MText_groupsThem.2.1 39 = .ok (.ishr, 1) := by decide +kernel
theorem d_MText_groupsThem_40 : decode y_MText_groupsThem.2.1 40 = .ok (.iconst 1, 1) := by decide +kernel
theorem d_MText_groupsThem_41 : decode y_MText_groupsThem.2.1 41 = .ok (.iand, 1) := by decide +kernel
theorem d_MText_groupsThem_42 : decode y_MText_groupsThem.2.1 42 = .ok (.ifCond .ne 71, 3) := by decide +kernel
theorem d_MText_groupsThem_45 : decode y_MText_groupsThem.2.1 45 = .ok (.aload_n 0, 1) := by decide +kernel
theorem d_MText_groupsThem_46 : decode y_MText_groupsThem.2.1 46 = .ok (.getfield 80, 3) := by decide +kernel
theorem d_MText_groupsThem_49 : decode y_MText_groupsThem.2.1 49 = .ok (.iload_n 3, 1) := by decide +kernel
theorem d_MText_groupsThem_50 : decode y_MText_groupsThem.2.1 50 = .ok (.iaload, 1) := by decide +kernel
theorem d_MText_groupsThem_51 : decode y_MText_groupsThem.2.1 51 = .ok (.aload_n 0, 1) := by decide +kernel
theorem d_MText_groupsThem_52 : decode y_MText_groupsThem.2.1 52 = .ok (.getfield 74, 3) := by decide +kernel
theorem d_MText_groupsThem_55 : decode y_MText_groupsThem.2.1 55 = .ok (.iload 5, 2) := by decide +kernel
theorem d_MText_groupsThem_57 : decode y_MText_groupsThem.2.1 57 = .ok (.iaload, 1) := by decide +kernel
theorem d_MText_groupsThem_58 : decode y_MText_groupsThem.2.1 58 = .ok (.aload_n 0, 1) := by decide +kernel
theorem d_MText_groupsThem_59 : decode y_MText_groupsThem.2.1 59 = .ok (.getfield 80, 3) := by decide +kernel
theorem d_MText_groupsThem_62 : decode y_MText_groupsThem.2.1 62 = .ok (.iload 5, 2) := by decide +kernel
theorem d_MText_groupsThem_64 : decode y_MText_groupsThem.2.1 64 = .ok (.iaload, 1) := by decide +kernel
theorem d_MText_groupsThem_65 : decode y_MText_groupsThem.2.1 65 = .ok (.ior, 1) := by decide +kernel
theorem d_MText_groupsThem_66 : decode y_MText_groupsThem.2.1 66 = .ok (.aload_n 0, 1) := by decide +kernel
theorem d_MText_groupsThem_67 : decode y_MText_groupsThem.2.1 67 = .ok (.getfield 83, 3) := by decide +kernel
theorem d_MText_groupsThem_70 : decode y_MText_groupsThem.2.1 70 = .ok (.iload 5, 2) := by decide +kernel
theorem d_MText_groupsThem_72 : decode y_MText_groupsThem.2.1 72 = .ok (.iaload, 1) := by decide +kernel
theorem d_MText_groupsThem_73 : decode y_MText_groupsThem.2.1 73 = .ok (.ior, 1) := by decide +kernel
theorem d_MText_groupsThem_74 : decode y_MText_groupsThem.2.1 74 = .ok (.iand, 1) := by decide +kernel
theorem d_MText_groupsThem_75 : decode y_MText_groupsThem.2.1 75 = .ok (.ifCond .ne 38, 3) := by decide +kernel
theorem d_MText_groupsThem_78 : decode y_MText_groupsThem.2.1 78 = .ok (.aload_n 0, 1) := by decide +kernel
theorem d_MText_groupsThem_79 : decode y_MText_groupsThem.2.1 79 = .ok (.getfield 80, 3) := by decide +kernel
theorem d_MText_groupsThem_82 : decode y_MText_groupsThem.2.1 82 = .ok (.iload 5, 2) := by decide +kernel
theorem d_MText_groupsThem_84 : decode y_MText_groupsThem.2.1 84 = .ok (.iaload, 1) := by decide +kernel
theorem d_MText_groupsThem_85 : decode y_MText_groupsThem.2.1 85 = .ok (.aload_n 0, 1) := by decide +kernel
theorem d_MText_groupsThem_86 : decode y_MText_groupsThem.2.1 86 = .ok (.getfield 74, 3) := by decide +kernel
theorem d_MText_groupsThem_89 : decode y_MText_groupsThem.2.1 89 = .ok (.iload_n 3, 1) := by decide +kernel
theorem d_MText_groupsThem_90 : decode y_MText_groupsThem.2.1 90 = .ok (.iaload, 1) := by decide +kernel
theorem d_MText_groupsThem_91 : decode y_MText_groupsThem.2.1 91 = .ok (.aload_n 0, 1) := by decide +kernel
theorem d_MText_groupsThem_92 : decode y_MText_groupsThem.2.1 92 = .ok (.getfield 80, 3) := by decide +kernel
theorem d_MText_groupsThem_95 : decode y_MText_groupsThem.2.1 95 = .ok (.iload_n 3, 1) := by decide +kernel
theorem d_MText_groupsThem_96 : decode y_MText_groupsThem.2.1 96 = .ok (.iaload, 1) := by decide +kernel
theorem d_MText_groupsThem_97 : decode y_MText_groupsThem.2.1 97 = .ok (.ior, 1) := by decide +kernel
theorem d_MText_groupsThem_98 : decode y_MText_groupsThem.2.1 98 = .ok (.aload_n 0, 1) := by decide +kernel
theorem d_MText_groupsThem_99 : decode y_MText_groupsThem.2.1 99 = .ok (.getfield 83, 3) := by decide +kernel
theorem d_MText_groupsThem_102 : decode y_MText_groupsThem.2.1 102 = .ok (.iload_n 3, 1) := by decide +kernel
theorem d_MText_groupsThem_103 : decode y_MText_groupsThem.2.1 103 = .ok (.iaload, 1) := by decide +kernel
theorem d_MText_groupsThem_104 : decode y_MText_groupsThem.2.1 104 = .ok (.ior, 1) := by decide +kernel
theorem d_MText_groupsThem_105 : decode y_MText_groupsThem.2.1 105 = .ok (.iand, 1) := by decide +kernel
theorem d_MText_groupsThem_106 : decode y_MText_groupsThem.2.1 106 = .ok (.ifCond .ne 7, 3) := by decide +kernel
theorem d_MText_groupsThem_109 : decode y_MText_groupsThem.2.1 109 = .ok (.iconst 1, 1) := by decide +kernel
theorem d_MText_groupsThem_110 : decode y_MText_groupsThem.2.1 110 = .ok (.goto 4, 3) := by decide +kernel
theorem d_MText_groupsThem_113 : decode y_MText_groupsThem.2.1 113 = .ok (.iconst 0, 1) := by decide +kernel
theorem d_MText_groupsThem_114 : decode y_MText_groupsThem.2.1 114 = .ok (.istore 4, 2) := by decide +kernel
theorem d_MText_groupsThem_116 : decode y_MText_groupsThem.2.1 116 = .ok (.iinc 5 1, 3) := by decide +kernel
theorem d_MText_groupsThem_119 : decode y_MText_groupsThem.2.1 119 = .ok (.goto (-99), 3) := by decide +kernel
theorem d_MText_groupsThem_122 : decode y_MText_groupsThem.2.1 122 = .ok (.iload 4, 2) := by decide +kernel
theorem d_MText_groupsThem_124 : decode y_MText_groupsThem.2.1 124 = .ok (.ifCond .ne 8, 3) := by decide +kernel
theorem d_MText_groupsThem_127 : decode y_MText_groupsThem.2.1 127 = .ok (.iinc 1 1, 3) := by decide +kernel
theorem d_MText_groupsThem_130 : decode y_MText_groupsThem.2.1 130 = .ok (.iload_n 3, 1) := by decide +kernel
theorem d_MText_groupsThem_131 : decode y_MText_groupsThem.2.1 131 = .ok (.istore_n 2, 1) := by decide +kernel
theorem d_MText_groupsThem_132 : decode y_MText_groupsThem.2.1 132 = .ok (.aload_n 0, 1) := by decide +kernel
theorem d_MText_groupsThem_133 : decode y_MText_groupsThem.2.1 133 = .ok (.getfield 92, 3) := by decide +kernel
theorem d_MText_groupsThem_136 : decode y_MText_groupsThem.2.1 136 = .ok (.iload_n 3, 1) := by decide +kernel
theorem d_MText_groupsThem_137 : decode y_MText_groupsThem.2.1 137 = .ok (.iload_n 1, 1) := by decide +kernel
theorem d_MText_groupsThem_138 : decode y_MText_groupsThem.2.1 138 = .ok (.iastore, 1) := by decide +kernel
theorem d_MText_groupsThem_139 : decode y_MText_groupsThem.2.1 139 = .ok (.iinc 3 1, 3) := by decide +kernel
theorem d_MText_groupsThem_142 : decode y_MText_groupsThem.2.1 142 = .ok (.goto (-136), 3) := by decide +kernel
theorem d_MText_groupsThem_145 : decode y_MText_groupsThem.2.1 145 = .ok (.return_, 1) := by decide +kernel
def y_MText_groups : ab_Y := (⟨"WorldEngineModel$Text", "groups", "()I"⟩, prog_16_method_16_code, 1, (some FieldType.int), [])
theorem d_MText_groups_0 : decode y_MText_groups.2.1 0 = .ok (.aload_n 0, 1) := by decide +kernel
theorem d_MText_groups_1 : decode y_MText_groups.2.1 1 = .ok (.getfield 182, 3) := by decide +kernel
theorem d_MText_groups_4 : decode y_MText_groups.2.1 4 = .ok (.ifCond .ne 7, 3) := by decide +kernel
theorem d_MText_groups_7 : decode y_MText_groups.2.1 7 = .ok (.iconst 0, 1) := by decide +kernel
theorem d_MText_groups_8 : decode y_MText_groups.2.1 8 = .ok (.goto 16, 3) := by decide +kernel
theorem d_MText_groups_11 : decode y_MText_groups.2.1 11 = .ok (.aload_n 0, 1) := by decide +kernel
theorem d_MText_groups_12 : decode y_MText_groups.2.1 12 = .ok (.getfield 92, 3) := by decide +kernel
theorem d_MText_groups_15 : decode y_MText_groups.2.1 15 = .ok (.aload_n 0, 1) := by decide +kernel
theorem d_MText_groups_16 : decode y_MText_groups.2.1 16 = .ok (.getfield 182, 3) := by decide +kernel
theorem d_MText_groups_19 : decode y_MText_groups.2.1 19 = .ok (.iconst 1, 1) := by decide +kernel
theorem d_MText_groups_20 : decode y_MText_groups.2.1 20 = .ok (.isub, 1) := by decide +kernel
theorem d_MText_groups_21 : decode y_MText_groups.2.1 21 = .ok (.iaload, 1) := by decide +kernel
theorem d_MText_groups_22 : decode y_MText_groups.2.1 22 = .ok (.iconst 1, 1) := by decide +kernel
theorem d_MText_groups_23 : decode y_MText_groups.2.1 23 = .ok (.iadd, 1) := by decide +kernel
theorem d_MText_groups_24 : decode y_MText_groups.2.1 24 = .ok (.ireturn, 1) := by decide +kernel
theorem s_M_thrown : ab_Stat y_M_thrown 0 := ⟨(k10 84 rfl rfl), (k1 19 rfl rfl), ⟨by decide, by decide⟩, by decide +kernel⟩
theorem i_M_thrown : Cond.instanceMethod y_M_thrown.1 ∈ ab_T := (k10 82 rfl rfl)
theorem v_M_thrown : Cond.selects "WorldEngineModel" y_M_thrown.1 y_M_thrown.1 ∈ ab_T := (k10 83 rfl rfl)
theorem s_M_feed : ab_Stat y_M_feed 5 := ⟨(k10 88 rfl rfl), (k1 19 rfl rfl), ⟨by decide, by decide⟩, by decide +kernel⟩
theorem i_M_feed : Cond.instanceMethod y_M_feed.1 ∈ ab_T := (k10 86 rfl rfl)
theorem v_M_feed : Cond.selects "WorldEngineModel" y_M_feed.1 y_M_feed.1 ∈ ab_T := (k10 87 rfl rfl)
theorem s_M_end : ab_Stat y_M_end 1 := ⟨(k10 92 rfl rfl), (k1 19 rfl rfl), ⟨by decide, by decide⟩, by decide +kernel⟩
theorem i_M_end : Cond.instanceMethod y_M_end.1 ∈ ab_T := (k10 90 rfl rfl)
theorem v_M_end : Cond.selects "WorldEngineModel" y_M_end.1 y_M_end.1 ∈ ab_T := (k10 91 rfl rfl)
theorem s_M_in : ab_Stat y_M_in 3 := ⟨(k10 95 rfl rfl), (k1 19 rfl rfl), ⟨by decide, by decide⟩, by decide +kernel⟩
theorem t_M_in : Cond.static y_M_in.1 ∈ ab_T := (k10 94 rfl rfl)
theorem s_M_text : ab_Stat y_M_text 1 := ⟨(k10 99 rfl rfl), (k1 19 rfl rfl), ⟨by decide, by decide⟩, by decide +kernel⟩
theorem i_M_text : Cond.instanceMethod y_M_text.1 ∈ ab_T := (k10 97 rfl rfl)
theorem v_M_text : Cond.selects "WorldEngineModel" y_M_text.1 y_M_text.1 ∈ ab_T := (k10 98 rfl rfl)
theorem s_M_reads : ab_Stat y_M_reads 0 := ⟨(k10 103 rfl rfl), (k1 19 rfl rfl), ⟨by decide, by decide⟩, by decide +kernel⟩
theorem i_M_reads : Cond.instanceMethod y_M_reads.1 ∈ ab_T := (k10 102 rfl rfl)
theorem v_M_reads : Cond.selects "WorldEngineModel" y_M_reads.1 y_M_reads.1 ∈ ab_T := ab_s (List.mem_of_getElem? (i := 106) rfl) rfl
theorem s_M_takes : ab_Stat y_M_takes 0 := ⟨(k11 144 rfl rfl), (k1 19 rfl rfl), ⟨by decide, by decide⟩, by decide +kernel⟩
theorem i_M_takes : Cond.instanceMethod y_M_takes.1 ∈ ab_T := (k11 143 rfl rfl)
theorem v_M_takes : Cond.selects "WorldEngineModel" y_M_takes.1 y_M_takes.1 ∈ ab_T := ab_s (List.mem_of_getElem? (i := 166) rfl) rfl
theorem s_M_forgets : ab_Stat y_M_forgets 0 := ⟨(k11 157 rfl rfl), (k1 19 rfl rfl), ⟨by decide, by decide⟩, by decide +kernel⟩
theorem i_M_forgets : Cond.instanceMethod y_M_forgets.1 ∈ ab_T := (k11 156 rfl rfl)
theorem v_M_forgets : Cond.selects "WorldEngineModel" y_M_forgets.1 y_M_forgets.1 ∈ ab_T := ab_s (List.mem_of_getElem? (i := 168) rfl) rfl
theorem s_M_fault : ab_Stat y_M_fault 1 := ⟨(k11 161 rfl rfl), (k1 19 rfl rfl), ⟨by decide, by decide⟩, by decide +kernel⟩
theorem i_M_fault : Cond.instanceMethod y_M_fault.1 ∈ ab_T := (k11 159 rfl rfl)
theorem v_M_fault : Cond.selects "WorldEngineModel" y_M_fault.1 y_M_fault.1 ∈ ab_T := (k11 160 rfl rfl)
theorem s_M_swap : ab_Stat y_M_swap 0 := ⟨(k11 165 rfl rfl), (k1 19 rfl rfl), ⟨by decide, by decide⟩, by decide +kernel⟩
theorem i_M_swap : Cond.instanceMethod y_M_swap.1 ∈ ab_T := (k11 163 rfl rfl)
theorem v_M_swap : Cond.selects "WorldEngineModel" y_M_swap.1 y_M_swap.1 ∈ ab_T := (k11 164 rfl rfl)
theorem s_M_isQuiet : ab_Stat y_M_isQuiet 0 := ⟨(k11 169 rfl rfl), (k1 19 rfl rfl), ⟨by decide, by decide⟩, by decide +kernel⟩
theorem i_M_isQuiet : Cond.instanceMethod y_M_isQuiet.1 ∈ ab_T := (k11 168 rfl rfl)
theorem v_M_isQuiet : Cond.selects "WorldEngineModel" y_M_isQuiet.1 y_M_isQuiet.1 ∈ ab_T := ab_s (List.mem_of_getElem? (i := 169) rfl) rfl
theorem s_M_carries : ab_Stat y_M_carries 0 := ⟨(k11 173 rfl rfl), (k1 19 rfl rfl), ⟨by decide, by decide⟩, by decide +kernel⟩
theorem i_M_carries : Cond.instanceMethod y_M_carries.1 ∈ ab_T := (k11 172 rfl rfl)
theorem v_M_carries : Cond.selects "WorldEngineModel" y_M_carries.1 y_M_carries.1 ∈ ab_T := ab_s (List.mem_of_getElem? (i := 170) rfl) rfl
theorem s_M_step : ab_Stat y_M_step 0 := ⟨(k11 196 rfl rfl), (k1 19 rfl rfl), ⟨by decide, by decide⟩, by decide +kernel⟩
theorem i_M_step : Cond.instanceMethod y_M_step.1 ∈ ab_T := (k11 194 rfl rfl)
theorem v_M_step : Cond.selects "WorldEngineModel" y_M_step.1 y_M_step.1 ∈ ab_T := (k11 195 rfl rfl)
theorem s_M_workers : ab_Stat y_M_workers 1 := ⟨(k11 200 rfl rfl), (k1 19 rfl rfl), ⟨by decide, by decide⟩, by decide +kernel⟩
theorem i_M_workers : Cond.instanceMethod y_M_workers.1 ∈ ab_T := (k11 199 rfl rfl)
theorem v_M_workers : Cond.selects "WorldEngineModel" y_M_workers.1 y_M_workers.1 ∈ ab_T := ab_s (List.mem_of_getElem? (i := 171) rfl) rfl
theorem s_M_input : ab_Stat y_M_input 3 := ⟨(k12 167 rfl rfl), (k1 19 rfl rfl), ⟨by decide, by decide⟩, by decide +kernel⟩
theorem i_M_input : Cond.instanceMethod y_M_input.1 ∈ ab_T := (k12 165 rfl rfl)
theorem v_M_input : Cond.selects "WorldEngineModel" y_M_input.1 y_M_input.1 ∈ ab_T := (k12 166 rfl rfl)
theorem s_M_slot : ab_Stat y_M_slot 2 := ⟨(k11 213 rfl rfl), (k1 19 rfl rfl), ⟨by decide, by decide⟩, by decide +kernel⟩
theorem i_M_slot : Cond.instanceMethod y_M_slot.1 ∈ ab_T := (k11 212 rfl rfl)
theorem v_M_slot : Cond.selects "WorldEngineModel" y_M_slot.1 y_M_slot.1 ∈ ab_T := ab_s (List.mem_of_getElem? (i := 174) rfl) rfl
theorem s_M_confirms : ab_Stat y_M_confirms 0 := ⟨(k12 163 rfl rfl), (k1 19 rfl rfl), ⟨by decide, by decide⟩, by decide +kernel⟩
theorem i_M_confirms : Cond.instanceMethod y_M_confirms.1 ∈ ab_T := (k12 162 rfl rfl)
theorem v_M_confirms : Cond.selects "WorldEngineModel" y_M_confirms.1 y_M_confirms.1 ∈ ab_T := ab_s (List.mem_of_getElem? (i := 205) rfl) rfl
theorem s_M_seat : ab_Stat y_M_seat 2 := ⟨(k12 177 rfl rfl), (k1 19 rfl rfl), ⟨by decide, by decide⟩, by decide +kernel⟩
theorem i_M_seat : Cond.instanceMethod y_M_seat.1 ∈ ab_T := (k12 175 rfl rfl)
theorem v_M_seat : Cond.selects "WorldEngineModel" y_M_seat.1 y_M_seat.1 ∈ ab_T := (k12 176 rfl rfl)
theorem s_M_make : ab_Stat y_M_make 1 := ⟨(k12 181 rfl rfl), (k1 19 rfl rfl), ⟨by decide, by decide⟩, by decide +kernel⟩
theorem i_M_make : Cond.instanceMethod y_M_make.1 ∈ ab_T := (k12 179 rfl rfl)
theorem v_M_make : Cond.selects "WorldEngineModel" y_M_make.1 y_M_make.1 ∈ ab_T := (k12 180 rfl rfl)
theorem s_M_change : ab_Stat y_M_change 3 := ⟨(k12 187 rfl rfl), (k1 19 rfl rfl), ⟨by decide, by decide⟩, by decide +kernel⟩
theorem i_M_change : Cond.instanceMethod y_M_change.1 ∈ ab_T := (k12 185 rfl rfl)
theorem v_M_change : Cond.selects "WorldEngineModel" y_M_change.1 y_M_change.1 ∈ ab_T := (k12 186 rfl rfl)
theorem s_M_isComponent : ab_Stat y_M_isComponent 1 := ⟨(k12 193 rfl rfl), (k1 19 rfl rfl), ⟨by decide, by decide⟩, by decide +kernel⟩
theorem i_M_isComponent : Cond.instanceMethod y_M_isComponent.1 ∈ ab_T := (k12 192 rfl rfl)
theorem v_M_isComponent : Cond.selects "WorldEngineModel" y_M_isComponent.1 y_M_isComponent.1 ∈ ab_T := ab_s (List.mem_of_getElem? (i := 207) rfl) rfl
theorem s_M_set : ab_Stat y_M_set 4 := ⟨(k12 200 rfl rfl), (k1 19 rfl rfl), ⟨by decide, by decide⟩, by decide +kernel⟩
theorem i_M_set : Cond.instanceMethod y_M_set.1 ∈ ab_T := (k12 198 rfl rfl)
theorem v_M_set : Cond.selects "WorldEngineModel" y_M_set.1 y_M_set.1 ∈ ab_T := (k12 199 rfl rfl)
theorem s_M_isMember : ab_Stat y_M_isMember 3 := ⟨(k12 204 rfl rfl), (k1 19 rfl rfl), ⟨by decide, by decide⟩, by decide +kernel⟩
theorem i_M_isMember : Cond.instanceMethod y_M_isMember.1 ∈ ab_T := (k12 203 rfl rfl)
theorem v_M_isMember : Cond.selects "WorldEngineModel" y_M_isMember.1 y_M_isMember.1 ∈ ab_T := ab_s (List.mem_of_getElem? (i := 208) rfl) rfl
theorem s_M_get : ab_Stat y_M_get 3 := ⟨(k12 209 rfl rfl), (k1 19 rfl rfl), ⟨by decide, by decide⟩, by decide +kernel⟩
theorem i_M_get : Cond.instanceMethod y_M_get.1 ∈ ab_T := (k12 207 rfl rfl)
theorem v_M_get : Cond.selects "WorldEngineModel" y_M_get.1 y_M_get.1 ∈ ab_T := (k12 208 rfl rfl)
theorem s_M_has : ab_Stat y_M_has 2 := ⟨(k12 213 rfl rfl), (k1 19 rfl rfl), ⟨by decide, by decide⟩, by decide +kernel⟩
theorem i_M_has : Cond.instanceMethod y_M_has.1 ∈ ab_T := (k12 211 rfl rfl)
theorem v_M_has : Cond.selects "WorldEngineModel" y_M_has.1 y_M_has.1 ∈ ab_T := (k12 212 rfl rfl)
theorem s_M_entity : ab_Stat y_M_entity 1 := ⟨(k12 217 rfl rfl), (k1 19 rfl rfl), ⟨by decide, by decide⟩, by decide +kernel⟩
theorem i_M_entity : Cond.instanceMethod y_M_entity.1 ∈ ab_T := (k12 215 rfl rfl)
theorem v_M_entity : Cond.selects "WorldEngineModel" y_M_entity.1 y_M_entity.1 ∈ ab_T := (k12 216 rfl rfl)
theorem s_M_row : ab_Stat y_M_row 2 := ⟨(k12 221 rfl rfl), (k1 19 rfl rfl), ⟨by decide, by decide⟩, by decide +kernel⟩
theorem i_M_row : Cond.instanceMethod y_M_row.1 ∈ ab_T := (k12 219 rfl rfl)
theorem v_M_row : Cond.selects "WorldEngineModel" y_M_row.1 y_M_row.1 ∈ ab_T := (k12 220 rfl rfl)
theorem s_M_group : ab_Stat y_M_group 1 := ⟨(k12 226 rfl rfl), (k1 19 rfl rfl), ⟨by decide, by decide⟩, by decide +kernel⟩
theorem i_M_group : Cond.instanceMethod y_M_group.1 ∈ ab_T := (k12 224 rfl rfl)
theorem v_M_group : Cond.selects "WorldEngineModel" y_M_group.1 y_M_group.1 ∈ ab_T := (k12 225 rfl rfl)
theorem s_M_shown : ab_Stat y_M_shown 1 := ⟨(k12 230 rfl rfl), (k1 19 rfl rfl), ⟨by decide, by decide⟩, by decide +kernel⟩
theorem i_M_shown : Cond.instanceMethod y_M_shown.1 ∈ ab_T := (k12 228 rfl rfl)
theorem v_M_shown : Cond.selects "WorldEngineModel" y_M_shown.1 y_M_shown.1 ∈ ab_T := (k12 229 rfl rfl)
theorem s_M_failure : ab_Stat y_M_failure 1 := ⟨(k12 234 rfl rfl), (k1 19 rfl rfl), ⟨by decide, by decide⟩, by decide +kernel⟩
theorem i_M_failure : Cond.instanceMethod y_M_failure.1 ∈ ab_T := (k12 232 rfl rfl)
theorem v_M_failure : Cond.selects "WorldEngineModel" y_M_failure.1 y_M_failure.1 ∈ ab_T := (k12 233 rfl rfl)
theorem s_M_pending : ab_Stat y_M_pending 2 := ⟨(k12 238 rfl rfl), (k1 19 rfl rfl), ⟨by decide, by decide⟩, by decide +kernel⟩
theorem i_M_pending : Cond.instanceMethod y_M_pending.1 ∈ ab_T := (k12 236 rfl rfl)
theorem v_M_pending : Cond.selects "WorldEngineModel" y_M_pending.1 y_M_pending.1 ∈ ab_T := (k12 237 rfl rfl)
theorem s_M_look : ab_Stat y_M_look 1 := ⟨(k13 2 rfl rfl), (k1 19 rfl rfl), ⟨by decide, by decide⟩, by decide +kernel⟩
theorem i_M_look : Cond.instanceMethod y_M_look.1 ∈ ab_T := (k13 0 rfl rfl)
theorem v_M_look : Cond.selects "WorldEngineModel" y_M_look.1 y_M_look.1 ∈ ab_T := (k13 1 rfl rfl)
theorem s_M_fall : ab_Stat y_M_fall 1 := ⟨(k13 14 rfl rfl), (k1 19 rfl rfl), ⟨by decide, by decide⟩, by decide +kernel⟩
theorem i_M_fall : Cond.instanceMethod y_M_fall.1 ∈ ab_T := (k13 12 rfl rfl)
theorem v_M_fall : Cond.selects "WorldEngineModel" y_M_fall.1 y_M_fall.1 ∈ ab_T := (k13 13 rfl rfl)
theorem s_M_stand : ab_Stat y_M_stand 1 := ⟨(k13 19 rfl rfl), (k1 19 rfl rfl), ⟨by decide, by decide⟩, by decide +kernel⟩
theorem i_M_stand : Cond.instanceMethod y_M_stand.1 ∈ ab_T := (k13 17 rfl rfl)
theorem v_M_stand : Cond.selects "WorldEngineModel" y_M_stand.1 y_M_stand.1 ∈ ab_T := (k13 18 rfl rfl)
theorem s_M_pace : ab_Stat y_M_pace 1 := ⟨(k13 23 rfl rfl), (k1 19 rfl rfl), ⟨by decide, by decide⟩, by decide +kernel⟩
theorem i_M_pace : Cond.instanceMethod y_M_pace.1 ∈ ab_T := (k13 21 rfl rfl)
theorem v_M_pace : Cond.selects "WorldEngineModel" y_M_pace.1 y_M_pace.1 ∈ ab_T := (k13 22 rfl rfl)
theorem s_M_sum : ab_Stat y_M_sum 0 := ⟨(k13 27 rfl rfl), (k1 19 rfl rfl), ⟨by decide, by decide⟩, by decide +kernel⟩
theorem i_M_sum : Cond.instanceMethod y_M_sum.1 ∈ ab_T := (k13 25 rfl rfl)
theorem v_M_sum : Cond.selects "WorldEngineModel" y_M_sum.1 y_M_sum.1 ∈ ab_T := (k13 26 rfl rfl)
theorem s_M_putsWorld : ab_Stat y_M_putsWorld 0 := ⟨(k13 31 rfl rfl), (k1 19 rfl rfl), ⟨by decide, by decide⟩, by decide +kernel⟩
theorem i_M_putsWorld : Cond.instanceMethod y_M_putsWorld.1 ∈ ab_T := (k13 30 rfl rfl)
theorem v_M_putsWorld : Cond.selects "WorldEngineModel" y_M_putsWorld.1 y_M_putsWorld.1 ∈ ab_T := ab_s (List.mem_of_getElem? (i := 209) rfl) rfl
theorem s_M_puts : ab_Stat y_M_puts 2 := ⟨(k13 35 rfl rfl), (k1 19 rfl rfl), ⟨by decide, by decide⟩, by decide +kernel⟩
theorem i_M_puts : Cond.instanceMethod y_M_puts.1 ∈ ab_T := (k13 34 rfl rfl)
theorem v_M_puts : Cond.selects "WorldEngineModel" y_M_puts.1 y_M_puts.1 ∈ ab_T := ab_s (List.mem_of_getElem? (i := 210) rfl) rfl
theorem s_M_save : ab_Stat y_M_save 0 := ⟨(k13 39 rfl rfl), (k1 19 rfl rfl), ⟨by decide, by decide⟩, by decide +kernel⟩
theorem i_M_save : Cond.instanceMethod y_M_save.1 ∈ ab_T := (k13 37 rfl rfl)
theorem v_M_save : Cond.selects "WorldEngineModel" y_M_save.1 y_M_save.1 ∈ ab_T := (k13 38 rfl rfl)
theorem s_M_bend : ab_Stat y_M_bend 2 := ⟨(k13 43 rfl rfl), (k1 19 rfl rfl), ⟨by decide, by decide⟩, by decide +kernel⟩
theorem i_M_bend : Cond.instanceMethod y_M_bend.1 ∈ ab_T := (k13 41 rfl rfl)
theorem v_M_bend : Cond.selects "WorldEngineModel" y_M_bend.1 y_M_bend.1 ∈ ab_T := (k13 42 rfl rfl)
theorem s_M_cut : ab_Stat y_M_cut 1 := ⟨(k13 47 rfl rfl), (k1 19 rfl rfl), ⟨by decide, by decide⟩, by decide +kernel⟩
theorem i_M_cut : Cond.instanceMethod y_M_cut.1 ∈ ab_T := (k13 45 rfl rfl)
theorem v_M_cut : Cond.selects "WorldEngineModel" y_M_cut.1 y_M_cut.1 ∈ ab_T := (k13 46 rfl rfl)
theorem s_M_byteOut : ab_Stat y_M_byteOut 1 := ⟨(k13 51 rfl rfl), (k1 19 rfl rfl), ⟨by decide, by decide⟩, by decide +kernel⟩
theorem i_M_byteOut : Cond.instanceMethod y_M_byteOut.1 ∈ ab_T := (k13 49 rfl rfl)
theorem v_M_byteOut : Cond.selects "WorldEngineModel" y_M_byteOut.1 y_M_byteOut.1 ∈ ab_T := (k13 50 rfl rfl)
theorem s_M_load : ab_Stat y_M_load 0 := ⟨(k13 55 rfl rfl), (k1 19 rfl rfl), ⟨by decide, by decide⟩, by decide +kernel⟩
theorem i_M_load : Cond.instanceMethod y_M_load.1 ∈ ab_T := (k13 53 rfl rfl)
theorem v_M_load : Cond.selects "WorldEngineModel" y_M_load.1 y_M_load.1 ∈ ab_T := (k13 54 rfl rfl)
theorem s_MWorld_copies : ab_Stat y_MWorld_copies 1 := ⟨(k11 149 rfl rfl), (k1 21 rfl rfl), ⟨by decide, by decide⟩, by decide +kernel⟩
theorem i_MWorld_copies : Cond.instanceMethod y_MWorld_copies.1 ∈ ab_T := (k11 147 rfl rfl)
theorem v_MWorld_copies : Cond.selects "WorldEngineModel$World" y_MWorld_copies.1 y_MWorld_copies.1 ∈ ab_T := (k11 148 rfl rfl)
theorem s_MWorld_isAlive : ab_Stat y_MWorld_isAlive 1 := ⟨(k12 53 rfl rfl), (k1 21 rfl rfl), ⟨by decide, by decide⟩, by decide +kernel⟩
theorem i_MWorld_isAlive : Cond.instanceMethod y_MWorld_isAlive.1 ∈ ab_T := (k12 51 rfl rfl)
theorem v_MWorld_isAlive : Cond.selects "WorldEngineModel$World" y_MWorld_isAlive.1 y_MWorld_isAlive.1 ∈ ab_T := (k12 52 rfl rfl)
theorem s_MWorld_has : ab_Stat y_MWorld_has 2 := ⟨(k12 49 rfl rfl), (k1 21 rfl rfl), ⟨by decide, by decide⟩, by decide +kernel⟩
theorem i_MWorld_has : Cond.instanceMethod y_MWorld_has.1 ∈ ab_T := (k12 47 rfl rfl)
theorem v_MWorld_has : Cond.selects "WorldEngineModel$World" y_MWorld_has.1 y_MWorld_has.1 ∈ ab_T := (k12 48 rfl rfl)
theorem s_MWorld_entities : ab_Stat y_MWorld_entities 0 := ⟨(k13 6 rfl rfl), (k1 21 rfl rfl), ⟨by decide, by decide⟩, by decide +kernel⟩
theorem i_MWorld_entities : Cond.instanceMethod y_MWorld_entities.1 ∈ ab_T := (k13 4 rfl rfl)
theorem v_MWorld_entities : Cond.selects "WorldEngineModel$World" y_MWorld_entities.1 y_MWorld_entities.1 ∈ ab_T := (k13 5 rfl rfl)
theorem s_MText_reads : ab_Stat y_MText_reads 2 := ⟨(k10 107 rfl rfl), (k1 20 rfl rfl), ⟨by decide, by decide⟩, by decide +kernel⟩
theorem i_MText_reads : Cond.instanceMethod y_MText_reads.1 ∈ ab_T := (k10 105 rfl rfl)
theorem v_MText_reads : Cond.selects "WorldEngineModel$Text" y_MText_reads.1 y_MText_reads.1 ∈ ab_T := (k10 106 rfl rfl)
theorem s_MText_scans : ab_Stat y_MText_scans 2 := ⟨(k10 111 rfl rfl), (k1 20 rfl rfl), ⟨by decide, by decide⟩, by decide +kernel⟩
theorem i_MText_scans : Cond.instanceMethod y_MText_scans.1 ∈ ab_T := (k10 110 rfl rfl)
theorem v_MText_scans : Cond.selects "WorldEngineModel$Text" y_MText_scans.1 y_MText_scans.1 ∈ ab_T := ab_s (List.mem_of_getElem? (i := 107) rfl) rfl
theorem s_MText_skips : ab_Stat y_MText_skips 1 := ⟨(k10 115 rfl rfl), (k1 20 rfl rfl), ⟨by decide, by decide⟩, by decide +kernel⟩
theorem i_MText_skips : Cond.instanceMethod y_MText_skips.1 ∈ ab_T := (k10 114 rfl rfl)
theorem v_MText_skips : Cond.selects "WorldEngineModel$Text" y_MText_skips.1 y_MText_skips.1 ∈ ab_T := ab_s (List.mem_of_getElem? (i := 108) rfl) rfl
theorem s_MText_letter : ab_Stat y_MText_letter 1 := ⟨(k10 119 rfl rfl), (k1 20 rfl rfl), ⟨by decide, by decide⟩, by decide +kernel⟩
theorem i_MText_letter : Cond.instanceMethod y_MText_letter.1 ∈ ab_T := (k10 118 rfl rfl)
theorem v_MText_letter : Cond.selects "WorldEngineModel$Text" y_MText_letter.1 y_MText_letter.1 ∈ ab_T := ab_s (List.mem_of_getElem? (i := 109) rfl) rfl
theorem s_MText_token : ab_Stat y_MText_token 3 := ⟨(k10 123 rfl rfl), (k1 20 rfl rfl), ⟨by decide, by decide⟩, by decide +kernel⟩
theorem i_MText_token : Cond.instanceMethod y_MText_token.1 ∈ ab_T := (k10 122 rfl rfl)
theorem v_MText_token : Cond.selects "WorldEngineModel$Text" y_MText_token.1 y_MText_token.1 ∈ ab_T := ab_s (List.mem_of_getElem? (i := 110) rfl) rfl
theorem s_MText_groupsThem : ab_Stat y_MText_groupsThem 0 := ⟨(k11 140 rfl rfl), (k1 20 rfl rfl), ⟨by decide, by decide⟩, by decide +kernel⟩
theorem i_MText_groupsThem : Cond.instanceMethod y_MText_groupsThem.1 ∈ ab_T := (k11 139 rfl rfl)
theorem v_MText_groupsThem : Cond.selects "WorldEngineModel$Text" y_MText_groupsThem.1 y_MText_groupsThem.1 ∈ ab_T := ab_s (List.mem_of_getElem? (i := 165) rfl) rfl
theorem s_MText_groups : ab_Stat y_MText_groups 0 := ⟨(k13 10 rfl rfl), (k1 20 rfl rfl), ⟨by decide, by decide⟩, by decide +kernel⟩
theorem i_MText_groups : Cond.instanceMethod y_MText_groups.1 ∈ ab_T := (k13 8 rfl rfl)
theorem v_MText_groups : Cond.selects "WorldEngineModel$Text" y_MText_groups.1 y_MText_groups.1 ∈ ab_T := (k13 9 rfl rfl)
