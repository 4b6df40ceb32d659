def y_W_init : ab_Y := (⟨"WorldEngine", "<init>", "(I)V"⟩, prog_1_method_1_code, 2, none, [])
theorem d_W_init_0 : decode y_W_init.2.1 0 = .ok (.aload_n 0, 1) := by decide +kernel
theorem d_W_init_1 : decode y_W_init.2.1 1 = .ok (.invokespecial 1, 3) := by decide +kernel
theorem d_W_init_4 : decode y_W_init.2.1 4 = .ok (.aload_n 0, 1) := by decide +kernel
theorem d_W_init_5 : decode y_W_init.2.1 5 = .ok (.new 7, 3) := by decide +kernel
theorem d_W_init_8 : decode y_W_init.2.1 8 = .ok (.dup, 1) := by decide +kernel
theorem d_W_init_9 : decode y_W_init.2.1 9 = .ok (.invokespecial 9, 3) := by decide +kernel
theorem d_W_init_12 : decode y_W_init.2.1 12 = .ok (.putfield 10, 3) := by decide +kernel
theorem d_W_init_15 : decode y_W_init.2.1 15 = .ok (.aload_n 0, 1) := by decide +kernel
theorem d_W_init_16 : decode y_W_init.2.1 16 = .ok (.new 16, 3) := by decide +kernel
theorem d_W_init_19 : decode y_W_init.2.1 19 = .ok (.dup, 1) := by decide +kernel
theorem d_W_init_20 : decode y_W_init.2.1 20 = .ok (.aload_n 0, 1) := by decide +kernel
theorem d_W_init_21 : decode y_W_init.2.1 21 = .ok (.getfield 10, 3) := by decide +kernel
theorem d_W_init_24 : decode y_W_init.2.1 24 = .ok (.invokespecial 18, 3) := by decide +kernel
theorem d_W_init_27 : decode y_W_init.2.1 27 = .ok (.putfield 21, 3) := by decide +kernel
theorem d_W_init_30 : decode y_W_init.2.1 30 = .ok (.aload_n 0, 1) := by decide +kernel
theorem d_W_init_31 : decode y_W_init.2.1 31 = .ok (.new 25, 3) := by decide +kernel
theorem d_W_init_34 : decode y_W_init.2.1 34 = .ok (.dup, 1) := by decide +kernel
theorem d_W_init_35 : decode y_W_init.2.1 35 = .ok (.invokespecial 27, 3) := by decide +kernel
theorem d_W_init_38 : decode y_W_init.2.1 38 = .ok (.putfield 28, 3) := by decide +kernel
theorem d_W_init_41 : decode y_W_init.2.1 41 = .ok (.aload_n 0, 1) := by decide +kernel
theorem d_W_init_42 : decode y_W_init.2.1 42 = .ok (.new 32, 3) := by decide +kernel
theorem d_W_init_45 : decode y_W_init.2.1 45 = .ok (.dup, 1) := by decide +kernel
theorem d_W_init_46 : decode y_W_init.2.1 46 = .ok (.invokespecial 34, 3) := by decide +kernel
theorem d_W_init_49 : decode y_W_init.2.1 49 = .ok (.putfield 35, 3) := by decide +kernel
theorem d_W_init_52 : decode y_W_init.2.1 52 = .ok (.aload_n 0, 1) := by decide +kernel
theorem d_W_init_53 : decode y_W_init.2.1 53 = .ok (.new 39, 3) := by decide +kernel
theorem d_W_init_56 : decode y_W_init.2.1 56 = .ok (.dup, 1) := by decide +kernel
theorem d_W_init_57 : decode y_W_init.2.1 57 = .ok (.invokespecial 41, 3) := by decide +kernel
theorem d_W_init_60 : decode y_W_init.2.1 60 = .ok (.putfield 42, 3) := by decide +kernel
theorem d_W_init_63 : decode y_W_init.2.1 63 = .ok (.aload_n 0, 1) := by decide +kernel
theorem d_W_init_64 : decode y_W_init.2.1 64 = .ok (.new 39, 3) := by decide +kernel
theorem d_W_init_67 : decode y_W_init.2.1 67 = .ok (.dup, 1) := by decide +kernel
theorem d_W_init_68 : decode y_W_init.2.1 68 = .ok (.invokespecial 41, 3) := by decide +kernel
theorem d_W_init_71 : decode y_W_init.2.1 71 = .ok (.putfield 46, 3) := by decide +kernel
theorem d_W_init_74 : decode y_W_init.2.1 74 = .ok (.aload_n 0, 1) := by decide +kernel
theorem d_W_init_75 : decode y_W_init.2.1 75 = .ok (.iconst 0, 1) := by decide +kernel
theorem d_W_init_76 : decode y_W_init.2.1 76 = .ok (.putfield 49, 3) := by decide +kernel
theorem d_W_init_79 : decode y_W_init.2.1 79 = .ok (.aload_n 0, 1) := by decide +kernel
theorem d_W_init_80 : decode y_W_init.2.1 80 = .ok (.iconst 1, 1) := by decide +kernel
theorem d_W_init_81 : decode y_W_init.2.1 81 = .ok (.iconst 1, 1) := by decide +kernel
theorem d_W_init_82 : decode y_W_init.2.1 82 = .ok (.bipush 8, 2) := by decide +kernel
theorem d_W_init_84 : decode y_W_init.2.1 84 = .ok (.iload_n 1, 1) := by decide +kernel
theorem d_W_init_85 : decode y_W_init.2.1 85 = .ok (.invokestatic 53, 3) := by decide +kernel
theorem d_W_init_88 : decode y_W_init.2.1 88 = .ok (.invokestatic 59, 3) := by decide +kernel
theorem d_W_init_91 : decode y_W_init.2.1 91 = .ok (.ishl, 1) := by decide +kernel
theorem d_W_init_92 : decode y_W_init.2.1 92 = .ok (.iconst 1, 1) := by decide +kernel
theorem d_W_init_93 : decode y_W_init.2.1 93 = .ok (.isub, 1) := by decide +kernel
theorem d_W_init_94 : decode y_W_init.2.1 94 = .ok (.putfield 62, 3) := by decide +kernel
theorem d_W_init_97 : decode y_W_init.2.1 97 = .ok (.aload_n 0, 1) := by decide +kernel
theorem d_W_init_98 : decode y_W_init.2.1 98 = .ok (.iconst 0, 1) := by decide +kernel
theorem d_W_init_99 : decode y_W_init.2.1 99 = .ok (.putfield 66, 3) := by decide +kernel
theorem d_W_init_102 : decode y_W_init.2.1 102 = .ok (.return_, 1) := by decide +kernel
def y_W_feed : ab_Y := (⟨"WorldEngine", "feed", "(IIIII)Z"⟩, prog_1_method_2_code, 6, (some FieldType.boolean), [])
theorem d_W_feed_0 : decode y_W_feed.2.1 0 = .ok (.aload_n 0, 1) := by decide +kernel
theorem d_W_feed_1 : decode y_W_feed.2.1 1 = .ok (.getfield 10, 3) := by decide +kernel
theorem d_W_feed_4 : decode y_W_feed.2.1 4 = .ok (.bipush 20, 2) := by decide +kernel
theorem d_W_feed_6 : decode y_W_feed.2.1 6 = .ok (.invokevirtual 69, 3) := by decide +kernel
theorem d_W_feed_9 : decode y_W_feed.2.1 9 = .ok (.ifCond .ne 5, 3) := by decide +kernel
theorem d_W_feed_12 : decode y_W_feed.2.1 12 = .ok (.iconst 0, 1) := by decide +kernel
theorem d_W_feed_13 : decode y_W_feed.2.1 13 = .ok (.ireturn, 1) := by decide +kernel
theorem d_W_feed_14 : decode y_W_feed.2.1 14 = .ok (.aload_n 0, 1) := by decide +kernel
theorem d_W_feed_15 : decode y_W_feed.2.1 15 = .ok (.getfield 10, 3) := by decide +kernel
theorem d_W_feed_18 : decode y_W_feed.2.1 18 = .ok (.iload_n 1, 1) := by decide +kernel
theorem d_W_feed_19 : decode y_W_feed.2.1 19 = .ok (.invokevirtual 73, 3) := by decide +kernel
theorem d_W_feed_22 : decode y_W_feed.2.1 22 = .ok (.aload_n 0, 1) := by decide +kernel
theorem d_W_feed_23 : decode y_W_feed.2.1 23 = .ok (.getfield 10, 3) := by decide +kernel
theorem d_W_feed_26 : decode y_W_feed.2.1 26 = .ok (.iload_n 2, 1) := by decide +kernel
theorem d_W_feed_27 : decode y_W_feed.2.1 27 = .ok (.invokevirtual 73, 3) := by decide +kernel
theorem d_W_feed_30 : decode y_W_feed.2.1 30 = .ok (.aload_n 0, 1) := by decide +kernel
theorem d_W_feed_31 : decode y_W_feed.2.1 31 = .ok (.getfield 10, 3) := by decide +kernel
theorem d_W_feed_34 : decode y_W_feed.2.1 34 = .ok (.iload_n 3, 1) := by decide +kernel
theorem d_W_feed_35 : decode y_W_feed.2.1 35 = .ok (.invokevirtual 73, 3) := by decide +kernel
theorem d_W_feed_38 : decode y_W_feed.2.1 38 = .ok (.aload_n 0, 1) := by decide +kernel
theorem d_W_feed_39 : decode y_W_feed.2.1 39 = .ok (.getfield 10, 3) := by decide +kernel
theorem d_W_feed_42 : decode y_W_feed.2.1 42 = .ok (.iload 4, 2) := by decide +kernel
theorem d_W_feed_44 : decode y_W_feed.2.1 44 = .ok (.invokevirtual 73, 3) := by decide +kernel
theorem d_W_feed_47 : decode y_W_feed.2.1 47 = .ok (.aload_n 0, 1) := by decide +kernel
theorem d_W_feed_48 : decode y_W_feed.2.1 48 = .ok (.getfield 10, 3) := by decide +kernel
theorem d_W_feed_51 : decode y_W_feed.2.1 51 = .ok (.iload 5, 2) := by decide +kernel
theorem d_W_feed_53 : decode y_W_feed.2.1 53 = .ok (.invokevirtual 73, 3) := by decide +kernel
theorem d_W_feed_56 : decode y_W_feed.2.1 56 = .ok (.iconst 1, 1) := by decide +kernel
theorem d_W_feed_57 : decode y_W_feed.2.1 57 = .ok (.ireturn, 1) := by decide +kernel
def y_W_end : ab_Y := (⟨"WorldEngine", "end", "(I)Z"⟩, prog_1_method_3_code, 2, (some FieldType.boolean), [])
theorem d_W_end_0 : decode y_W_end.2.1 0 = .ok (.iload_n 1, 1) := by decide +kernel
theorem d_W_end_1 : decode y_W_end.2.1 1 = .ok (.ifCond .lt 14, 3) := by decide +kernel
theorem d_W_end_4 : decode y_W_end.2.1 4 = .ok (.iload_n 1, 1) := by decide +kernel
theorem d_W_end_5 : decode y_W_end.2.1 5 = .ok (.aload_n 0, 1) := by decide +kernel
theorem d_W_end_6 : decode y_W_end.2.1 6 = .ok (.getfield 10, 3) := by decide +kernel
theorem d_W_end_9 : decode y_W_end.2.1 9 = .ok (.getfield 77, 3) := by decide +kernel
theorem d_W_end_12 : decode y_W_end.2.1 12 = .ok (.if_icmp .le 5, 3) := by decide +kernel
theorem d_W_end_15 : decode y_W_end.2.1 15 = .ok (.iconst 0, 1) := by decide +kernel
theorem d_W_end_16 : decode y_W_end.2.1 16 = .ok (.ireturn, 1) := by decide +kernel
theorem d_W_end_17 : decode y_W_end.2.1 17 = .ok (.aload_n 0, 1) := by decide +kernel
theorem d_W_end_18 : decode y_W_end.2.1 18 = .ok (.getfield 10, 3) := by decide +kernel
theorem d_W_end_21 : decode y_W_end.2.1 21 = .ok (.iload_n 1, 1) := by decide +kernel
theorem d_W_end_22 : decode y_W_end.2.1 22 = .ok (.putfield 77, 3) := by decide +kernel
theorem d_W_end_25 : decode y_W_end.2.1 25 = .ok (.iconst 1, 1) := by decide +kernel
theorem d_W_end_26 : decode y_W_end.2.1 26 = .ok (.ireturn, 1) := by decide +kernel
def y_W_text : ab_Y := (⟨"WorldEngine", "text", "(I)I"⟩, prog_1_method_4_code, 2, (some FieldType.int), [])
theorem d_W_text_0 : decode y_W_text.2.1 0 = .ok (.aload_n 0, 1) := by decide +kernel
theorem d_W_text_1 : decode y_W_text.2.1 1 = .ok (.getfield 21, 3) := by decide +kernel
theorem d_W_text_4 : decode y_W_text.2.1 4 = .ok (.aload_n 0, 1) := by decide +kernel
theorem d_W_text_5 : decode y_W_text.2.1 5 = .ok (.getfield 46, 3) := by decide +kernel
theorem d_W_text_8 : decode y_W_text.2.1 8 = .ok (.invokevirtual 80, 3) := by decide +kernel
theorem d_W_text_11 : decode y_W_text.2.1 11 = .ok (.ifCond .ne 12, 3) := by decide +kernel
theorem d_W_text_14 : decode y_W_text.2.1 14 = .ok (.aload_n 0, 1) := by decide +kernel
theorem d_W_text_15 : decode y_W_text.2.1 15 = .ok (.getfield 10, 3) := by decide +kernel
theorem d_W_text_18 : decode y_W_text.2.1 18 = .ok (.getfield 84, 3) := by decide +kernel
theorem d_W_text_21 : decode y_W_text.2.1 21 = .ok (.ineg, 1) := by decide +kernel
theorem d_W_text_22 : decode y_W_text.2.1 22 = .ok (.ireturn, 1) := by decide +kernel
theorem d_W_text_23 : decode y_W_text.2.1 23 = .ok (.aload_n 0, 1) := by decide +kernel
theorem d_W_text_24 : decode y_W_text.2.1 24 = .ok (.invokevirtual 87, 3) := by decide +kernel
theorem d_W_text_27 : decode y_W_text.2.1 27 = .ok (.aload_n 0, 1) := by decide +kernel
theorem d_W_text_28 : decode y_W_text.2.1 28 = .ok (.getfield 28, 3) := by decide +kernel
theorem d_W_text_31 : decode y_W_text.2.1 31 = .ok (.iload_n 1, 1) := by decide +kernel
theorem d_W_text_32 : decode y_W_text.2.1 32 = .ok (.aload_n 0, 1) := by decide +kernel
theorem d_W_text_33 : decode y_W_text.2.1 33 = .ok (.getfield 42, 3) := by decide +kernel
theorem d_W_text_36 : decode y_W_text.2.1 36 = .ok (.getfield 90, 3) := by decide +kernel
theorem d_W_text_39 : decode y_W_text.2.1 39 = .ok (.invokevirtual 94, 3) := by decide +kernel
theorem d_W_text_42 : decode y_W_text.2.1 42 = .ok (.invokevirtual 100, 3) := by decide +kernel
theorem d_W_text_45 : decode y_W_text.2.1 45 = .ok (.aload_n 0, 1) := by decide +kernel
theorem d_W_text_46 : decode y_W_text.2.1 46 = .ok (.getfield 42, 3) := by decide +kernel
theorem d_W_text_49 : decode y_W_text.2.1 49 = .ok (.getfield 104, 3) := by decide +kernel
theorem d_W_text_52 : decode y_W_text.2.1 52 = .ok (.ireturn, 1) := by decide +kernel
def y_W_exchangePrograms : ab_Y := (⟨"WorldEngine", "exchangePrograms", "()V"⟩, prog_1_method_7_code, 2, none, [])
theorem d_W_exchangePrograms_0 : decode y_W_exchangePrograms.2.1 0 = .ok (.aload_n 0, 1) := by decide +kernel
theorem d_W_exchangePrograms_1 : decode y_W_exchangePrograms.2.1 1 = .ok (.getfield 46, 3) := by decide +kernel
theorem d_W_exchangePrograms_4 : decode y_W_exchangePrograms.2.1 4 = .ok (.astore_n 1, 1) := by decide +kernel
theorem d_W_exchangePrograms_5 : decode y_W_exchangePrograms.2.1 5 = .ok (.aload_n 0, 1) := by decide +kernel
theorem d_W_exchangePrograms_6 : decode y_W_exchangePrograms.2.1 6 = .ok (.aload_n 0, 1) := by decide +kernel
theorem d_W_exchangePrograms_7 : decode y_W_exchangePrograms.2.1 7 = .ok (.getfield 42, 3) := by decide +kernel
theorem d_W_exchangePrograms_10 : decode y_W_exchangePrograms.2.1 10 = .ok (.putfield 46, 3) := by decide +kernel
theorem d_W_exchangePrograms_13 : decode y_W_exchangePrograms.2.1 13 = .ok (.aload_n 0, 1) := by decide +kernel
theorem d_W_exchangePrograms_14 : decode y_W_exchangePrograms.2.1 14 = .ok (.aload_n 1, 1) := by decide +kernel
theorem d_W_exchangePrograms_15 : decode y_W_exchangePrograms.2.1 15 = .ok (.putfield 42, 3) := by decide +kernel
theorem d_W_exchangePrograms_18 : decode y_W_exchangePrograms.2.1 18 = .ok (.aload_n 0, 1) := by decide +kernel
theorem d_W_exchangePrograms_19 : decode y_W_exchangePrograms.2.1 19 = .ok (.iconst 1, 1) := by decide +kernel
theorem d_W_exchangePrograms_20 : decode y_W_exchangePrograms.2.1 20 = .ok (.putfield 49, 3) := by decide +kernel
theorem d_W_exchangePrograms_23 : decode y_W_exchangePrograms.2.1 23 = .ok (.return_, 1) := by decide +kernel
def y_W_fault : ab_Y := (⟨"WorldEngine", "fault", "(I)I"⟩, prog_1_method_5_code, 2, (some FieldType.int), [])
theorem d_W_fault_0 : decode y_W_fault.2.1 0 = .ok (.aload_n 0, 1) := by decide +kernel
theorem d_W_fault_1 : decode y_W_fault.2.1 1 = .ok (.getfield 10, 3) := by decide +kernel
theorem d_W_fault_4 : decode y_W_fault.2.1 4 = .ok (.getfield 84, 3) := by decide +kernel
theorem d_W_fault_7 : decode y_W_fault.2.1 7 = .ok (.ifCond .ne 5, 3) := by decide +kernel
theorem d_W_fault_10 : decode y_W_fault.2.1 10 = .ok (.iconst (-1), 1) := by decide +kernel
theorem d_W_fault_11 : decode y_W_fault.2.1 11 = .ok (.ireturn, 1) := by decide +kernel
theorem d_W_fault_12 : decode y_W_fault.2.1 12 = .ok (.iload_n 1, 1) := by decide +kernel
theorem d_W_fault_13 : decode y_W_fault.2.1 13 = .ok (.ifCond .ne 11, 3) := by decide +kernel
theorem d_W_fault_16 : decode y_W_fault.2.1 16 = .ok (.aload_n 0, 1) := by decide +kernel
theorem d_W_fault_17 : decode y_W_fault.2.1 17 = .ok (.getfield 10, 3) := by decide +kernel
theorem d_W_fault_20 : decode y_W_fault.2.1 20 = .ok (.getfield 107, 3) := by decide +kernel
theorem d_W_fault_23 : decode y_W_fault.2.1 23 = .ok (.ireturn, 1) := by decide +kernel
theorem d_W_fault_24 : decode y_W_fault.2.1 24 = .ok (.iload_n 1, 1) := by decide +kernel
theorem d_W_fault_25 : decode y_W_fault.2.1 25 = .ok (.iconst 1, 1) := by decide +kernel
theorem d_W_fault_26 : decode y_W_fault.2.1 26 = .ok (.if_icmp .ne 13, 3) := by decide +kernel
theorem d_W_fault_29 : decode y_W_fault.2.1 29 = .ok (.aload_n 0, 1) := by decide +kernel
theorem d_W_fault_30 : decode y_W_fault.2.1 30 = .ok (.getfield 10, 3) := by decide +kernel
theorem d_W_fault_33 : decode y_W_fault.2.1 33 = .ok (.getfield 84, 3) := by decide +kernel
theorem d_W_fault_36 : decode y_W_fault.2.1 36 = .ok (.goto 4, 3) := by decide +kernel
theorem d_W_fault_39 : decode y_W_fault.2.1 39 = .ok (.iconst (-1), 1) := by decide +kernel
theorem d_W_fault_40 : decode y_W_fault.2.1 40 = .ok (.ireturn, 1) := by decide +kernel
def y_W_swap : ab_Y := (⟨"WorldEngine", "swap", "()I"⟩, prog_1_method_6_code, 1, (some FieldType.int), [])
theorem d_W_swap_0 : decode y_W_swap.2.1 0 = .ok (.aload_n 0, 1) := by decide +kernel
theorem d_W_swap_1 : decode y_W_swap.2.1 1 = .ok (.getfield 28, 3) := by decide +kernel
theorem d_W_swap_4 : decode y_W_swap.2.1 4 = .ok (.invokevirtual 110, 3) := by decide +kernel
theorem d_W_swap_7 : decode y_W_swap.2.1 7 = .ok (.ifCond .ne 6, 3) := by decide +kernel
theorem d_W_swap_10 : decode y_W_swap.2.1 10 = .ok (.bipush (-10), 2) := by decide +kernel
theorem d_W_swap_12 : decode y_W_swap.2.1 12 = .ok (.ireturn, 1) := by decide +kernel
theorem d_W_swap_13 : decode y_W_swap.2.1 13 = .ok (.aload_n 0, 1) := by decide +kernel
theorem d_W_swap_14 : decode y_W_swap.2.1 14 = .ok (.getfield 21, 3) := by decide +kernel
theorem d_W_swap_17 : decode y_W_swap.2.1 17 = .ok (.aload_n 0, 1) := by decide +kernel
theorem d_W_swap_18 : decode y_W_swap.2.1 18 = .ok (.getfield 46, 3) := by decide +kernel
theorem d_W_swap_21 : decode y_W_swap.2.1 21 = .ok (.invokevirtual 80, 3) := by decide +kernel
theorem d_W_swap_24 : decode y_W_swap.2.1 24 = .ok (.ifCond .ne 12, 3) := by decide +kernel
theorem d_W_swap_27 : decode y_W_swap.2.1 27 = .ok (.aload_n 0, 1) := by decide +kernel
theorem d_W_swap_28 : decode y_W_swap.2.1 28 = .ok (.getfield 10, 3) := by decide +kernel
theorem d_W_swap_31 : decode y_W_swap.2.1 31 = .ok (.getfield 84, 3) := by decide +kernel
theorem d_W_swap_34 : decode y_W_swap.2.1 34 = .ok (.ineg, 1) := by decide +kernel
theorem d_W_swap_35 : decode y_W_swap.2.1 35 = .ok (.ireturn, 1) := by decide +kernel
theorem d_W_swap_36 : decode y_W_swap.2.1 36 = .ok (.aload_n 0, 1) := by decide +kernel
theorem d_W_swap_37 : decode y_W_swap.2.1 37 = .ok (.invokevirtual 87, 3) := by decide +kernel
theorem d_W_swap_40 : decode y_W_swap.2.1 40 = .ok (.aload_n 0, 1) := by decide +kernel
theorem d_W_swap_41 : decode y_W_swap.2.1 41 = .ok (.getfield 28, 3) := by decide +kernel
theorem d_W_swap_44 : decode y_W_swap.2.1 44 = .ok (.aload_n 0, 1) := by decide +kernel
theorem d_W_swap_45 : decode y_W_swap.2.1 45 = .ok (.getfield 46, 3) := by decide +kernel
theorem d_W_swap_48 : decode y_W_swap.2.1 48 = .ok (.aload_n 0, 1) := by decide +kernel
theorem d_W_swap_49 : decode y_W_swap.2.1 49 = .ok (.getfield 42, 3) := by decide +kernel
theorem d_W_swap_52 : decode y_W_swap.2.1 52 = .ok (.invokevirtual 114, 3) := by decide +kernel
theorem d_W_swap_55 : decode y_W_swap.2.1 55 = .ok (.aload_n 0, 1) := by decide +kernel
theorem d_W_swap_56 : decode y_W_swap.2.1 56 = .ok (.getfield 42, 3) := by decide +kernel
theorem d_W_swap_59 : decode y_W_swap.2.1 59 = .ok (.getfield 104, 3) := by decide +kernel
theorem d_W_swap_62 : decode y_W_swap.2.1 62 = .ok (.ireturn, 1) := by decide +kernel
def y_W_step : ab_Y := (⟨"WorldEngine", "step", "()I"⟩, prog_1_method_8_code, 1, (some FieldType.int), [])
theorem d_W_step_0 : decode y_W_step.2.1 0 = .ok (.aload_n 0, 1) := by decide +kernel
theorem d_W_step_1 : decode y_W_step.2.1 1 = .ok (.getfield 28, 3) := by decide +kernel
theorem d_W_step_4 : decode y_W_step.2.1 4 = .ok (.invokevirtual 118, 3) := by decide +kernel
theorem d_W_step_7 : decode y_W_step.2.1 7 = .ok (.ifCond .eq 5, 3) := by decide +kernel
theorem d_W_step_10 : decode y_W_step.2.1 10 = .ok (.iconst (-1), 1) := by decide +kernel
theorem d_W_step_11 : decode y_W_step.2.1 11 = .ok (.ireturn, 1) := by decide +kernel
theorem d_W_step_12 : decode y_W_step.2.1 12 = .ok (.aload_n 0, 1) := by decide +kernel
theorem d_W_step_13 : decode y_W_step.2.1 13 = .ok (.getfield 62, 3) := by decide +kernel
theorem d_W_step_16 : decode y_W_step.2.1 16 = .ok (.aload_n 0, 1) := by decide +kernel
theorem d_W_step_17 : decode y_W_step.2.1 17 = .ok (.getfield 66, 3) := by decide +kernel
theorem d_W_step_20 : decode y_W_step.2.1 20 = .ok (.iconst (-1), 1) := by decide +kernel
theorem d_W_step_21 : decode y_W_step.2.1 21 = .ok (.ixor, 1) := by decide +kernel
theorem d_W_step_22 : decode y_W_step.2.1 22 = .ok (.iand, 1) := by decide +kernel
theorem d_W_step_23 : decode y_W_step.2.1 23 = .ok (.ifCond .ne 6, 3) := by decide +kernel
theorem d_W_step_26 : decode y_W_step.2.1 26 = .ok (.bipush (-2), 2) := by decide +kernel
theorem d_W_step_28 : decode y_W_step.2.1 28 = .ok (.ireturn, 1) := by decide +kernel
theorem d_W_step_29 : decode y_W_step.2.1 29 = .ok (.aload_n 0, 1) := by decide +kernel
theorem d_W_step_30 : decode y_W_step.2.1 30 = .ok (.getfield 49, 3) := by decide +kernel
theorem d_W_step_33 : decode y_W_step.2.1 33 = .ok (.ifCond .ne 6, 3) := by decide +kernel
theorem d_W_step_36 : decode y_W_step.2.1 36 = .ok (.bipush (-3), 2) := by decide +kernel
theorem d_W_step_38 : decode y_W_step.2.1 38 = .ok (.ireturn, 1) := by decide +kernel
theorem d_W_step_39 : decode y_W_step.2.1 39 = .ok (.aload_n 0, 1) := by decide +kernel
theorem d_W_step_40 : decode y_W_step.2.1 40 = .ok (.getfield 28, 3) := by decide +kernel
theorem d_W_step_43 : decode y_W_step.2.1 43 = .ok (.getfield 121, 3) := by decide +kernel
theorem d_W_step_46 : decode y_W_step.2.1 46 = .ok (.getfield 125, 3) := by decide +kernel
theorem d_W_step_49 : decode y_W_step.2.1 49 = .ok (.ldc 130, 2) := by decide +kernel
theorem d_W_step_51 : decode y_W_step.2.1 51 = .ok (.if_icmp .lt 6, 3) := by decide +kernel
theorem d_W_step_54 : decode y_W_step.2.1 54 = .ok (.bipush (-4), 2) := by decide +kernel
theorem d_W_step_56 : decode y_W_step.2.1 56 = .ok (.ireturn, 1) := by decide +kernel
theorem d_W_step_57 : decode y_W_step.2.1 57 = .ok (.aload_n 0, 1) := by decide +kernel
theorem d_W_step_58 : decode y_W_step.2.1 58 = .ok (.getfield 28, 3) := by decide +kernel
theorem d_W_step_61 : decode y_W_step.2.1 61 = .ok (.aload_n 0, 1) := by decide +kernel
theorem d_W_step_62 : decode y_W_step.2.1 62 = .ok (.getfield 42, 3) := by decide +kernel
theorem d_W_step_65 : decode y_W_step.2.1 65 = .ok (.invokevirtual 131, 3) := by decide +kernel
theorem d_W_step_68 : decode y_W_step.2.1 68 = .ok (.aload_n 0, 1) := by decide +kernel
theorem d_W_step_69 : decode y_W_step.2.1 69 = .ok (.dup, 1) := by decide +kernel
theorem d_W_step_70 : decode y_W_step.2.1 70 = .ok (.getfield 62, 3) := by decide +kernel
theorem d_W_step_73 : decode y_W_step.2.1 73 = .ok (.aload_n 0, 1) := by decide +kernel
theorem d_W_step_74 : decode y_W_step.2.1 74 = .ok (.getfield 66, 3) := by decide +kernel
theorem d_W_step_77 : decode y_W_step.2.1 77 = .ok (.iconst (-1), 1) := by decide +kernel
theorem d_W_step_78 : decode y_W_step.2.1 78 = .ok (.ixor, 1) := by decide +kernel
theorem d_W_step_79 : decode y_W_step.2.1 79 = .ok (.iand, 1) := by decide +kernel
theorem d_W_step_80 : decode y_W_step.2.1 80 = .ok (.putfield 62, 3) := by decide +kernel
theorem d_W_step_83 : decode y_W_step.2.1 83 = .ok (.aload_n 0, 1) := by decide +kernel
theorem d_W_step_84 : decode y_W_step.2.1 84 = .ok (.iconst 0, 1) := by decide +kernel
theorem d_W_step_85 : decode y_W_step.2.1 85 = .ok (.putfield 66, 3) := by decide +kernel
theorem d_W_step_88 : decode y_W_step.2.1 88 = .ok (.aload_n 0, 1) := by decide +kernel
theorem d_W_step_89 : decode y_W_step.2.1 89 = .ok (.getfield 28, 3) := by decide +kernel
theorem d_W_step_92 : decode y_W_step.2.1 92 = .ok (.getfield 121, 3) := by decide +kernel
theorem d_W_step_95 : decode y_W_step.2.1 95 = .ok (.getfield 125, 3) := by decide +kernel
theorem d_W_step_98 : decode y_W_step.2.1 98 = .ok (.ireturn, 1) := by decide +kernel
def y_W_input : ab_Y := (⟨"WorldEngine", "input", "(III)I"⟩, prog_1_method_9_code, 5, (some FieldType.int), [])
theorem d_W_input_0 : decode y_W_input.2.1 0 = .ok (.aload_n 0, 1) := by decide +kernel
theorem d_W_input_1 : decode y_W_input.2.1 1 = .ok (.getfield 28, 3) := by decide +kernel
theorem d_W_input_4 : decode y_W_input.2.1 4 = .ok (.iload_n 1, 1) := by decide +kernel
theorem d_W_input_5 : decode y_W_input.2.1 5 = .ok (.iload_n 2, 1) := by decide +kernel
theorem d_W_input_6 : decode y_W_input.2.1 6 = .ok (.invokevirtual 135, 3) := by decide +kernel
theorem d_W_input_9 : decode y_W_input.2.1 9 = .ok (.istore 4, 2) := by decide +kernel
theorem d_W_input_11 : decode y_W_input.2.1 11 = .ok (.iload 4, 2) := by decide +kernel
theorem d_W_input_13 : decode y_W_input.2.1 13 = .ok (.ifCond .eq 6, 3) := by decide +kernel
theorem d_W_input_16 : decode y_W_input.2.1 16 = .ok (.iload 4, 2) := by decide +kernel
theorem d_W_input_18 : decode y_W_input.2.1 18 = .ok (.ireturn, 1) := by decide +kernel
theorem d_W_input_19 : decode y_W_input.2.1 19 = .ok (.aload_n 0, 1) := by decide +kernel
theorem d_W_input_20 : decode y_W_input.2.1 20 = .ok (.getfield 28, 3) := by decide +kernel
theorem d_W_input_23 : decode y_W_input.2.1 23 = .ok (.aload_n 0, 1) := by decide +kernel
theorem d_W_input_24 : decode y_W_input.2.1 24 = .ok (.getfield 42, 3) := by decide +kernel
theorem d_W_input_27 : decode y_W_input.2.1 27 = .ok (.iload_n 1, 1) := by decide +kernel
theorem d_W_input_28 : decode y_W_input.2.1 28 = .ok (.iload_n 2, 1) := by decide +kernel
theorem d_W_input_29 : decode y_W_input.2.1 29 = .ok (.iload_n 3, 1) := by decide +kernel
theorem d_W_input_30 : decode y_W_input.2.1 30 = .ok (.invokevirtual 138, 3) := by decide +kernel
theorem d_W_input_33 : decode y_W_input.2.1 33 = .ok (.ireturn, 1) := by decide +kernel
def y_W_seat : ab_Y := (⟨"WorldEngine", "seat", "(IZ)Z"⟩, prog_1_method_10_code, 3, (some FieldType.boolean), [])
theorem d_W_seat_0 : decode y_W_seat.2.1 0 = .ok (.aload_n 0, 1) := by decide +kernel
theorem d_W_seat_1 : decode y_W_seat.2.1 1 = .ok (.getfield 28, 3) := by decide +kernel
theorem d_W_seat_4 : decode y_W_seat.2.1 4 = .ok (.iload_n 1, 1) := by decide +kernel
theorem d_W_seat_5 : decode y_W_seat.2.1 5 = .ok (.iload_n 2, 1) := by decide +kernel
theorem d_W_seat_6 : decode y_W_seat.2.1 6 = .ok (.invokevirtual 142, 3) := by decide +kernel
theorem d_W_seat_9 : decode y_W_seat.2.1 9 = .ok (.ireturn, 1) := by decide +kernel
def y_W_make : ab_Y := (⟨"WorldEngine", "make", "(I)I"⟩, prog_1_method_11_code, 3, (some FieldType.int), [])
theorem d_W_make_0 : decode y_W_make.2.1 0 = .ok (.aload_n 0, 1) := by decide +kernel
theorem d_W_make_1 : decode y_W_make.2.1 1 = .ok (.getfield 28, 3) := by decide +kernel
theorem d_W_make_4 : decode y_W_make.2.1 4 = .ok (.invokevirtual 110, 3) := by decide +kernel
theorem d_W_make_7 : decode y_W_make.2.1 7 = .ok (.ifCond .ne 6, 3) := by decide +kernel
theorem d_W_make_10 : decode y_W_make.2.1 10 = .ok (.bipush (-10), 2) := by decide +kernel
theorem d_W_make_12 : decode y_W_make.2.1 12 = .ok (.ireturn, 1) := by decide +kernel
theorem d_W_make_13 : decode y_W_make.2.1 13 = .ok (.iload_n 1, 1) := by decide +kernel
theorem d_W_make_14 : decode y_W_make.2.1 14 = .ok (.ifCond .lt 14, 3) := by decide +kernel
theorem d_W_make_17 : decode y_W_make.2.1 17 = .ok (.iload_n 1, 1) := by decide +kernel
theorem d_W_make_18 : decode y_W_make.2.1 18 = .ok (.aload_n 0, 1) := by decide +kernel
theorem d_W_make_19 : decode y_W_make.2.1 19 = .ok (.getfield 42, 3) := by decide +kernel
theorem d_W_make_22 : decode y_W_make.2.1 22 = .ok (.getfield 146, 3) := by decide +kernel
theorem d_W_make_25 : decode y_W_make.2.1 25 = .ok (.if_icmp .lt 5, 3) := by decide +kernel
theorem d_W_make_28 : decode y_W_make.2.1 28 = .ok (.iconst (-1), 1) := by decide +kernel
theorem d_W_make_29 : decode y_W_make.2.1 29 = .ok (.ireturn, 1) := by decide +kernel
theorem d_W_make_30 : decode y_W_make.2.1 30 = .ok (.aload_n 0, 1) := by decide +kernel
theorem d_W_make_31 : decode y_W_make.2.1 31 = .ok (.getfield 28, 3) := by decide +kernel
theorem d_W_make_34 : decode y_W_make.2.1 34 = .ok (.getfield 121, 3) := by decide +kernel
theorem d_W_make_37 : decode y_W_make.2.1 37 = .ok (.aload_n 0, 1) := by decide +kernel
theorem d_W_make_38 : decode y_W_make.2.1 38 = .ok (.getfield 42, 3) := by decide +kernel
theorem d_W_make_41 : decode y_W_make.2.1 41 = .ok (.iload_n 1, 1) := by decide +kernel
theorem d_W_make_42 : decode y_W_make.2.1 42 = .ok (.invokevirtual 149, 3) := by decide +kernel
theorem d_W_make_45 : decode y_W_make.2.1 45 = .ok (.istore_n 2, 1) := by decide +kernel
theorem d_W_make_46 : decode y_W_make.2.1 46 = .ok (.iload_n 2, 1) := by decide +kernel
theorem d_W_make_47 : decode y_W_make.2.1 47 = .ok (.ifCond .ge 8, 3) := by decide +kernel
theorem d_W_make_50 : decode y_W_make.2.1 50 = .ok (.bipush (-2), 2) := by decide +kernel
theorem d_W_make_52 : decode y_W_make.2.1 52 = .ok (.goto 14, 3) := by decide +kernel
theorem d_W_make_55 : decode y_W_make.2.1 55 = .ok (.aload_n 0, 1) := by decide +kernel
theorem d_W_make_56 : decode y_W_make.2.1 56 = .ok (.getfield 28, 3) := by decide +kernel
theorem d_W_make_59 : decode y_W_make.2.1 59 = .ok (.getfield 121, 3) := by decide +kernel
theorem d_W_make_62 : decode y_W_make.2.1 62 = .ok (.iload_n 2, 1) := by decide +kernel
theorem d_W_make_63 : decode y_W_make.2.1 63 = .ok (.invokevirtual 153, 3) := by decide +kernel
theorem d_W_make_66 : decode y_W_make.2.1 66 = .ok (.ireturn, 1) := by decide +kernel
def y_W_change : ab_Y := (⟨"WorldEngine", "change", "(III)I"⟩, prog_1_method_12_code, 6, (some FieldType.int), [])
theorem d_W_change_0 : decode y_W_change.2.1 0 = .ok (.aload_n 0, 1) := by decide +kernel
theorem d_W_change_1 : decode y_W_change.2.1 1 = .ok (.getfield 28, 3) := by decide +kernel
theorem d_W_change_4 : decode y_W_change.2.1 4 = .ok (.invokevirtual 110, 3) := by decide +kernel
theorem d_W_change_7 : decode y_W_change.2.1 7 = .ok (.ifCond .ne 6, 3) := by decide +kernel
theorem d_W_change_10 : decode y_W_change.2.1 10 = .ok (.bipush (-10), 2) := by decide +kernel
theorem d_W_change_12 : decode y_W_change.2.1 12 = .ok (.ireturn, 1) := by decide +kernel
theorem d_W_change_13 : decode y_W_change.2.1 13 = .ok (.aload_n 0, 1) := by decide +kernel
theorem d_W_change_14 : decode y_W_change.2.1 14 = .ok (.getfield 28, 3) := by decide +kernel
theorem d_W_change_17 : decode y_W_change.2.1 17 = .ok (.getfield 121, 3) := by decide +kernel
theorem d_W_change_20 : decode y_W_change.2.1 20 = .ok (.astore 4, 2) := by decide +kernel
theorem d_W_change_22 : decode y_W_change.2.1 22 = .ok (.aload 4, 2) := by decide +kernel
theorem d_W_change_24 : decode y_W_change.2.1 24 = .ok (.iload_n 2, 1) := by decide +kernel
theorem d_W_change_25 : decode y_W_change.2.1 25 = .ok (.invokevirtual 157, 3) := by decide +kernel
theorem d_W_change_28 : decode y_W_change.2.1 28 = .ok (.istore 5, 2) := by decide +kernel
theorem d_W_change_30 : decode y_W_change.2.1 30 = .ok (.iload_n 1, 1) := by decide +kernel
theorem d_W_change_31 : decode y_W_change.2.1 31 = .ok (.ifCond .lt 13, 3) := by decide +kernel
theorem d_W_change_34 : decode y_W_change.2.1 34 = .ok (.iload_n 1, 1) := by decide +kernel
theorem d_W_change_35 : decode y_W_change.2.1 35 = .ok (.iconst 2, 1) := by decide +kernel
theorem d_W_change_36 : decode y_W_change.2.1 36 = .ok (.if_icmp .gt 8, 3) := by decide +kernel
theorem d_W_change_39 : decode y_W_change.2.1 39 = .ok (.iload 5, 2) := by decide +kernel
theorem d_W_change_41 : decode y_W_change.2.1 41 = .ok (.ifCond .ge 5, 3) := by decide +kernel
theorem d_W_change_44 : decode y_W_change.2.1 44 = .ok (.iconst (-1), 1) := by decide +kernel
theorem d_W_change_45 : decode y_W_change.2.1 45 = .ok (.ireturn, 1) := by decide +kernel
theorem d_W_change_46 : decode y_W_change.2.1 46 = .ok (.iload_n 1, 1) := by decide +kernel
theorem d_W_change_47 : decode y_W_change.2.1 47 = .ok (.ifCond .ne 12, 3) := by decide +kernel
theorem d_W_change_50 : decode y_W_change.2.1 50 = .ok (.aload 4, 2) := by decide +kernel
theorem d_W_change_52 : decode y_W_change.2.1 52 = .ok (.iload 5, 2) := by decide +kernel
theorem d_W_change_54 : decode y_W_change.2.1 54 = .ok (.invokevirtual 160, 3) := by decide +kernel
theorem d_W_change_57 : decode y_W_change.2.1 57 = .ok (.iconst 0, 1) := by decide +kernel
theorem d_W_change_58 : decode y_W_change.2.1 58 = .ok (.ireturn, 1) := by decide +kernel
theorem d_W_change_59 : decode y_W_change.2.1 59 = .ok (.iload_n 3, 1) := by decide +kernel
theorem d_W_change_60 : decode y_W_change.2.1 60 = .ok (.ifCond .lt 17, 3) := by decide +kernel
theorem d_W_change_63 : decode y_W_change.2.1 63 = .ok (.iload_n 3, 1) := by decide +kernel
theorem d_W_change_64 : decode y_W_change.2.1 64 = .ok (.aload_n 0, 1) := by decide +kernel
theorem d_W_change_65 : decode y_W_change.2.1 65 = .ok (.getfield 42, 3) := by decide +kernel
theorem d_W_change_68 : decode y_W_change.2.1 68 = .ok (.getfield 90, 3) := by decide +kernel
theorem d_W_change_71 : decode y_W_change.2.1 71 = .ok (.getfield 163, 3) := by decide +kernel
theorem d_W_change_74 : decode y_W_change.2.1 74 = .ok (.if_icmp .lt 5, 3) := by decide +kernel
theorem d_W_change_77 : decode y_W_change.2.1 77 = .ok (.iconst (-1), 1) := by decide +kernel
theorem d_W_change_78 : decode y_W_change.2.1 78 = .ok (.ireturn, 1) := by decide +kernel
theorem d_W_change_79 : decode y_W_change.2.1 79 = .ok (.aload 4, 2) := by decide +kernel
theorem d_W_change_81 : decode y_W_change.2.1 81 = .ok (.iload 5, 2) := by decide +kernel
theorem d_W_change_83 : decode y_W_change.2.1 83 = .ok (.iload_n 3, 1) := by decide +kernel
theorem d_W_change_84 : decode y_W_change.2.1 84 = .ok (.invokevirtual 166, 3) := by decide +kernel
theorem d_W_change_87 : decode y_W_change.2.1 87 = .ok (.iload_n 1, 1) := by decide +kernel
theorem d_W_change_88 : decode y_W_change.2.1 88 = .ok (.iconst 1, 1) := by decide +kernel
theorem d_W_change_89 : decode y_W_change.2.1 89 = .ok (.if_icmp .ne 7, 3) := by decide +kernel
theorem d_W_change_92 : decode y_W_change.2.1 92 = .ok (.iconst 1, 1) := by decide +kernel
theorem d_W_change_93 : decode y_W_change.2.1 93 = .ok (.goto 4, 3) := by decide +kernel
theorem d_W_change_96 : decode y_W_change.2.1 96 = .ok (.iconst 0, 1) := by decide +kernel
theorem d_W_change_97 : decode y_W_change.2.1 97 = .ok (.if_icmp .ne 6, 3) := by decide +kernel
theorem d_W_change_100 : decode y_W_change.2.1 100 = .ok (.bipush (-2), 2) := by decide +kernel
theorem d_W_change_102 : decode y_W_change.2.1 102 = .ok (.ireturn, 1) := by decide +kernel
theorem d_W_change_103 : decode y_W_change.2.1 103 = .ok (.iload_n 1, 1) := by decide +kernel
theorem d_W_change_104 : decode y_W_change.2.1 104 = .ok (.iconst 1, 1) := by decide +kernel
theorem d_W_change_105 : decode y_W_change.2.1 105 = .ok (.if_icmp .ne 18, 3) := by decide +kernel
theorem d_W_change_108 : decode y_W_change.2.1 108 = .ok (.aload 4, 2) := by decide +kernel
theorem d_W_change_110 : decode y_W_change.2.1 110 = .ok (.aload_n 0, 1) := by decide +kernel
theorem d_W_change_111 : decode y_W_change.2.1 111 = .ok (.getfield 42, 3) := by decide +kernel
theorem d_W_change_114 : decode y_W_change.2.1 114 = .ok (.iload 5, 2) := by decide +kernel
theorem d_W_change_116 : decode y_W_change.2.1 116 = .ok (.iload_n 3, 1) := by decide +kernel
theorem d_W_change_117 : decode y_W_change.2.1 117 = .ok (.invokevirtual 170, 3) := by decide +kernel
theorem d_W_change_120 : decode y_W_change.2.1 120 = .ok (.goto 11, 3) := by decide +kernel
theorem d_W_change_123 : decode y_W_change.2.1 123 = .ok (.aload 4, 2) := by decide +kernel
theorem d_W_change_125 : decode y_W_change.2.1 125 = .ok (.iload 5, 2) := by decide +kernel
theorem d_W_change_127 : decode y_W_change.2.1 127 = .ok (.iload_n 3, 1) := by decide +kernel
theorem d_W_change_128 : decode y_W_change.2.1 128 = .ok (.invokevirtual 174, 3) := by decide +kernel
theorem d_W_change_131 : decode y_W_change.2.1 131 = .ok (.iconst 0, 1) := by decide +kernel
theorem d_W_change_132 : decode y_W_change.2.1 132 = .ok (.ireturn, 1) := by decide +kernel
def y_W_set : ab_Y := (⟨"WorldEngine", "set", "(IIII)I"⟩, prog_1_method_13_code, 8, (some FieldType.int), [])
theorem d_W_set_0 : decode y_W_set.2.1 0 = .ok (.aload_n 0, 1) := by decide +kernel
theorem d_W_set_1 : decode y_W_set.2.1 1 = .ok (.getfield 28, 3) := by decide +kernel
theorem d_W_set_4 : decode y_W_set.2.1 4 = .ok (.invokevirtual 110, 3) := by decide +kernel
theorem d_W_set_7 : decode y_W_set.2.1 7 = .ok (.ifCond .ne 6, 3) := by decide +kernel
theorem d_W_set_10 : decode y_W_set.2.1 10 = .ok (.bipush (-10), 2) := by decide +kernel
theorem d_W_set_12 : decode y_W_set.2.1 12 = .ok (.ireturn, 1) := by decide +kernel
theorem d_W_set_13 : decode y_W_set.2.1 13 = .ok (.aload_n 0, 1) := by decide +kernel
theorem d_W_set_14 : decode y_W_set.2.1 14 = .ok (.iload_n 1, 1) := by decide +kernel
theorem d_W_set_15 : decode y_W_set.2.1 15 = .ok (.iload_n 2, 1) := by decide +kernel
theorem d_W_set_16 : decode y_W_set.2.1 16 = .ok (.iload_n 3, 1) := by decide +kernel
theorem d_W_set_17 : decode y_W_set.2.1 17 = .ok (.invokevirtual 177, 3) := by decide +kernel
theorem d_W_set_20 : decode y_W_set.2.1 20 = .ok (.istore 5, 2) := by decide +kernel
theorem d_W_set_22 : decode y_W_set.2.1 22 = .ok (.iload 5, 2) := by decide +kernel
theorem d_W_set_24 : decode y_W_set.2.1 24 = .ok (.ifCond .ge 5, 3) := by decide +kernel
theorem d_W_set_27 : decode y_W_set.2.1 27 = .ok (.iconst (-1), 1) := by decide +kernel
theorem d_W_set_28 : decode y_W_set.2.1 28 = .ok (.ireturn, 1) := by decide +kernel
theorem d_W_set_29 : decode y_W_set.2.1 29 = .ok (.aload_n 0, 1) := by decide +kernel
theorem d_W_set_30 : decode y_W_set.2.1 30 = .ok (.getfield 42, 3) := by decide +kernel
theorem d_W_set_33 : decode y_W_set.2.1 33 = .ok (.getfield 90, 3) := by decide +kernel
theorem d_W_set_36 : decode y_W_set.2.1 36 = .ok (.getfield 181, 3) := by decide +kernel
theorem d_W_set_39 : decode y_W_set.2.1 39 = .ok (.iload 5, 2) := by decide +kernel
theorem d_W_set_41 : decode y_W_set.2.1 41 = .ok (.aaload, 1) := by decide +kernel
theorem d_W_set_42 : decode y_W_set.2.1 42 = .ok (.getfield 185, 3) := by decide +kernel
theorem d_W_set_45 : decode y_W_set.2.1 45 = .ok (.istore 6, 2) := by decide +kernel
theorem d_W_set_47 : decode y_W_set.2.1 47 = .ok (.iload 4, 2) := by decide +kernel
theorem d_W_set_49 : decode y_W_set.2.1 49 = .ok (.istore 7, 2) := by decide +kernel
theorem d_W_set_51 : decode y_W_set.2.1 51 = .ok (.iload 6, 2) := by decide +kernel
theorem d_W_set_53 : decode y_W_set.2.1 53 = .ok (.iconst 1, 1) := by decide +kernel
theorem d_W_set_54 : decode y_W_set.2.1 54 = .ok (.if_icmp .ne 20, 3) := by decide +kernel
theorem d_W_set_57 : decode y_W_set.2.1 57 = .ok (.bipush (-128), 2) := by decide +kernel
theorem d_W_set_59 : decode y_W_set.2.1 59 = .ok (.bipush 127, 2) := by decide +kernel
theorem d_W_set_61 : decode y_W_set.2.1 61 = .ok (.iload 4, 2) := by decide +kernel
theorem d_W_set_63 : decode y_W_set.2.1 63 = .ok (.invokestatic 53, 3) := by decide +kernel
theorem d_W_set_66 : decode y_W_set.2.1 66 = .ok (.invokestatic 59, 3) := by decide +kernel
theorem d_W_set_69 : decode y_W_set.2.1 69 = .ok (.istore 7, 2) := by decide +kernel
theorem d_W_set_71 : decode y_W_set.2.1 71 = .ok (.goto 32, 3) := by decide +kernel
theorem d_W_set_74 : decode y_W_set.2.1 74 = .ok (.iload 6, 2) := by decide +kernel
theorem d_W_set_76 : decode y_W_set.2.1 76 = .ok (.iconst 3, 1) := by decide +kernel
theorem d_W_set_77 : decode y_W_set.2.1 77 = .ok (.if_icmp .ne 12, 3) := by decide +kernel
theorem d_W_set_80 : decode y_W_set.2.1 80 = .ok (.iload 4, 2) := by decide +kernel
theorem d_W_set_82 : decode y_W_set.2.1 82 = .ok (.iconst 1, 1) := by decide +kernel
theorem d_W_set_83 : decode y_W_set.2.1 83 = .ok (.iand, 1) := by decide +kernel
theorem d_W_set_84 : decode y_W_set.2.1 84 = .ok (.istore 7, 2) := by decide +kernel
theorem d_W_set_86 : decode y_W_set.2.1 86 = .ok (.goto 17, 3) := by decide +kernel
theorem d_W_set_89 : decode y_W_set.2.1 89 = .ok (.iload 6, 2) := by decide +kernel
theorem d_W_set_91 : decode y_W_set.2.1 91 = .ok (.iconst 4, 1) := by decide +kernel
theorem d_W_set_92 : decode y_W_set.2.1 92 = .ok (.if_icmp .ne 11, 3) := by decide +kernel
theorem d_W_set_95 : decode y_W_set.2.1 95 = .ok (.iconst (-1), 1) := by decide +kernel
theorem d_W_set_96 : decode y_W_set.2.1 96 = .ok (.iload 4, 2) := by decide +kernel
theorem d_W_set_98 : decode y_W_set.2.1 98 = .ok (.invokestatic 59, 3) := by decide +kernel
theorem d_W_set_101 : decode y_W_set.2.1 101 = .ok (.istore 7, 2) := by decide +kernel
theorem d_W_set_103 : decode y_W_set.2.1 103 = .ok (.aload_n 0, 1) := by decide +kernel
theorem d_W_set_104 : decode y_W_set.2.1 104 = .ok (.getfield 28, 3) := by decide +kernel
theorem d_W_set_107 : decode y_W_set.2.1 107 = .ok (.getfield 121, 3) := by decide +kernel
theorem d_W_set_110 : decode y_W_set.2.1 110 = .ok (.aload_n 0, 1) := by decide +kernel
theorem d_W_set_111 : decode y_W_set.2.1 111 = .ok (.getfield 28, 3) := by decide +kernel
theorem d_W_set_114 : decode y_W_set.2.1 114 = .ok (.getfield 121, 3) := by decide +kernel
theorem d_W_set_117 : decode y_W_set.2.1 117 = .ok (.iload_n 1, 1) := by decide +kernel
theorem d_W_set_118 : decode y_W_set.2.1 118 = .ok (.invokevirtual 157, 3) := by decide +kernel
theorem d_W_set_121 : decode y_W_set.2.1 121 = .ok (.iload 5, 2) := by decide +kernel
theorem d_W_set_123 : decode y_W_set.2.1 123 = .ok (.iload 7, 2) := by decide +kernel
theorem d_W_set_125 : decode y_W_set.2.1 125 = .ok (.invokevirtual 190, 3) := by decide +kernel
theorem d_W_set_128 : decode y_W_set.2.1 128 = .ok (.iconst 0, 1) := by decide +kernel
theorem d_W_set_129 : decode y_W_set.2.1 129 = .ok (.ireturn, 1) := by decide +kernel
def y_W_offsetOf : ab_Y := (⟨"WorldEngine", "offsetOf", "(III)I"⟩, prog_1_method_15_code, 5, (some FieldType.int), [])
theorem d_W_offsetOf_0 : decode y_W_offsetOf.2.1 0 = .ok (.aload_n 0, 1) := by decide +kernel
theorem d_W_offsetOf_1 : decode y_W_offsetOf.2.1 1 = .ok (.iload_n 1, 1) := by decide +kernel
theorem d_W_offsetOf_2 : decode y_W_offsetOf.2.1 2 = .ok (.iload_n 2, 1) := by decide +kernel
theorem d_W_offsetOf_3 : decode y_W_offsetOf.2.1 3 = .ok (.invokevirtual 204, 3) := by decide +kernel
theorem d_W_offsetOf_6 : decode y_W_offsetOf.2.1 6 = .ok (.ifCond .ne 5, 3) := by decide +kernel
theorem d_W_offsetOf_9 : decode y_W_offsetOf.2.1 9 = .ok (.iconst (-1), 1) := by decide +kernel
theorem d_W_offsetOf_10 : decode y_W_offsetOf.2.1 10 = .ok (.ireturn, 1) := by decide +kernel
theorem d_W_offsetOf_11 : decode y_W_offsetOf.2.1 11 = .ok (.aload_n 0, 1) := by decide +kernel
theorem d_W_offsetOf_12 : decode y_W_offsetOf.2.1 12 = .ok (.getfield 42, 3) := by decide +kernel
theorem d_W_offsetOf_15 : decode y_W_offsetOf.2.1 15 = .ok (.getfield 90, 3) := by decide +kernel
theorem d_W_offsetOf_18 : decode y_W_offsetOf.2.1 18 = .ok (.astore 4, 2) := by decide +kernel
theorem d_W_offsetOf_20 : decode y_W_offsetOf.2.1 20 = .ok (.iload_n 3, 1) := by decide +kernel
theorem d_W_offsetOf_21 : decode y_W_offsetOf.2.1 21 = .ok (.ifCond .lt 13, 3) := by decide +kernel
theorem d_W_offsetOf_24 : decode y_W_offsetOf.2.1 24 = .ok (.iload_n 3, 1) := by decide +kernel
theorem d_W_offsetOf_25 : decode y_W_offsetOf.2.1 25 = .ok (.aload 4, 2) := by decide +kernel
theorem d_W_offsetOf_27 : decode y_W_offsetOf.2.1 27 = .ok (.iload_n 2, 1) := by decide +kernel
theorem d_W_offsetOf_28 : decode y_W_offsetOf.2.1 28 = .ok (.invokevirtual 207, 3) := by decide +kernel
theorem d_W_offsetOf_31 : decode y_W_offsetOf.2.1 31 = .ok (.if_icmp .lt 5, 3) := by decide +kernel
theorem d_W_offsetOf_34 : decode y_W_offsetOf.2.1 34 = .ok (.iconst (-1), 1) := by decide +kernel
theorem d_W_offsetOf_35 : decode y_W_offsetOf.2.1 35 = .ok (.ireturn, 1) := by decide +kernel
theorem d_W_offsetOf_36 : decode y_W_offsetOf.2.1 36 = .ok (.aload 4, 2) := by decide +kernel
theorem d_W_offsetOf_38 : decode y_W_offsetOf.2.1 38 = .ok (.getfield 210, 3) := by decide +kernel
theorem d_W_offsetOf_41 : decode y_W_offsetOf.2.1 41 = .ok (.iload_n 2, 1) := by decide +kernel
theorem d_W_offsetOf_42 : decode y_W_offsetOf.2.1 42 = .ok (.iaload, 1) := by decide +kernel
theorem d_W_offsetOf_43 : decode y_W_offsetOf.2.1 43 = .ok (.iload_n 3, 1) := by decide +kernel
theorem d_W_offsetOf_44 : decode y_W_offsetOf.2.1 44 = .ok (.iadd, 1) := by decide +kernel
theorem d_W_offsetOf_45 : decode y_W_offsetOf.2.1 45 = .ok (.ireturn, 1) := by decide +kernel
def y_W_has : ab_Y := (⟨"WorldEngine", "has", "(II)Z"⟩, prog_1_method_16_code, 4, (some FieldType.boolean), [])
theorem d_W_has_0 : decode y_W_has.2.1 0 = .ok (.aload_n 0, 1) := by decide +kernel
theorem d_W_has_1 : decode y_W_has.2.1 1 = .ok (.getfield 28, 3) := by decide +kernel
theorem d_W_has_4 : decode y_W_has.2.1 4 = .ok (.getfield 121, 3) := by decide +kernel
theorem d_W_has_7 : decode y_W_has.2.1 7 = .ok (.iload_n 1, 1) := by decide +kernel
theorem d_W_has_8 : decode y_W_has.2.1 8 = .ok (.invokevirtual 157, 3) := by decide +kernel
theorem d_W_has_11 : decode y_W_has.2.1 11 = .ok (.istore_n 3, 1) := by decide +kernel
theorem d_W_has_12 : decode y_W_has.2.1 12 = .ok (.iload_n 3, 1) := by decide +kernel
theorem d_W_has_13 : decode y_W_has.2.1 13 = .ok (.ifCond .lt 21, 3) := by decide +kernel
theorem d_W_has_16 : decode y_W_has.2.1 16 = .ok (.iload_n 2, 1) := by decide +kernel
theorem d_W_has_17 : decode y_W_has.2.1 17 = .ok (.ifCond .lt 17, 3) := by decide +kernel
theorem d_W_has_20 : decode y_W_has.2.1 20 = .ok (.iload_n 2, 1) := by decide +kernel
theorem d_W_has_21 : decode y_W_has.2.1 21 = .ok (.aload_n 0, 1) := by decide +kernel
theorem d_W_has_22 : decode y_W_has.2.1 22 = .ok (.getfield 42, 3) := by decide +kernel
theorem d_W_has_25 : decode y_W_has.2.1 25 = .ok (.getfield 90, 3) := by decide +kernel
theorem d_W_has_28 : decode y_W_has.2.1 28 = .ok (.getfield 163, 3) := by decide +kernel
theorem d_W_has_31 : decode y_W_has.2.1 31 = .ok (.if_icmp .lt 5, 3) := by decide +kernel
theorem d_W_has_34 : decode y_W_has.2.1 34 = .ok (.iconst 0, 1) := by decide +kernel
theorem d_W_has_35 : decode y_W_has.2.1 35 = .ok (.ireturn, 1) := by decide +kernel
theorem d_W_has_36 : decode y_W_has.2.1 36 = .ok (.aload_n 0, 1) := by decide +kernel
theorem d_W_has_37 : decode y_W_has.2.1 37 = .ok (.getfield 28, 3) := by decide +kernel
theorem d_W_has_40 : decode y_W_has.2.1 40 = .ok (.getfield 121, 3) := by decide +kernel
theorem d_W_has_43 : decode y_W_has.2.1 43 = .ok (.iload_n 3, 1) := by decide +kernel
theorem d_W_has_44 : decode y_W_has.2.1 44 = .ok (.iload_n 2, 1) := by decide +kernel
theorem d_W_has_45 : decode y_W_has.2.1 45 = .ok (.invokevirtual 166, 3) := by decide +kernel
theorem d_W_has_48 : decode y_W_has.2.1 48 = .ok (.ireturn, 1) := by decide +kernel
def y_W_entity : ab_Y := (⟨"WorldEngine", "entity", "(I)I"⟩, prog_1_method_17_code, 2, (some FieldType.int), [])
theorem d_W_entity_0 : decode y_W_entity.2.1 0 = .ok (.aload_n 0, 1) := by decide +kernel
theorem d_W_entity_1 : decode y_W_entity.2.1 1 = .ok (.getfield 28, 3) := by decide +kernel
theorem d_W_entity_4 : decode y_W_entity.2.1 4 = .ok (.getfield 121, 3) := by decide +kernel
theorem d_W_entity_7 : decode y_W_entity.2.1 7 = .ok (.iconst 0, 1) := by decide +kernel
theorem d_W_entity_8 : decode y_W_entity.2.1 8 = .ok (.iconst 0, 1) := by decide +kernel
theorem d_W_entity_9 : decode y_W_entity.2.1 9 = .ok (.iload_n 1, 1) := by decide +kernel
theorem d_W_entity_10 : decode y_W_entity.2.1 10 = .ok (.invokevirtual 214, 3) := by decide +kernel
theorem d_W_entity_13 : decode y_W_entity.2.1 13 = .ok (.ireturn, 1) := by decide +kernel
def y_W_row : ab_Y := (⟨"WorldEngine", "row", "(II)I"⟩, prog_1_method_18_code, 3, (some FieldType.int), [])
theorem d_W_row_0 : decode y_W_row.2.1 0 = .ok (.iload_n 1, 1) := by decide +kernel
theorem d_W_row_1 : decode y_W_row.2.1 1 = .ok (.ifCond .lt 14, 3) := by decide +kernel
theorem d_W_row_4 : decode y_W_row.2.1 4 = .ok (.iload_n 1, 1) := by decide +kernel
theorem d_W_row_5 : decode y_W_row.2.1 5 = .ok (.aload_n 0, 1) := by decide +kernel
theorem d_W_row_6 : decode y_W_row.2.1 6 = .ok (.getfield 42, 3) := by decide +kernel
theorem d_W_row_9 : decode y_W_row.2.1 9 = .ok (.getfield 104, 3) := by decide +kernel
theorem d_W_row_12 : decode y_W_row.2.1 12 = .ok (.if_icmp .lt 5, 3) := by decide +kernel
theorem d_W_row_15 : decode y_W_row.2.1 15 = .ok (.iconst (-1), 1) := by decide +kernel
theorem d_W_row_16 : decode y_W_row.2.1 16 = .ok (.ireturn, 1) := by decide +kernel
theorem d_W_row_17 : decode y_W_row.2.1 17 = .ok (.aload_n 0, 1) := by decide +kernel
theorem d_W_row_18 : decode y_W_row.2.1 18 = .ok (.getfield 28, 3) := by decide +kernel
theorem d_W_row_21 : decode y_W_row.2.1 21 = .ok (.getfield 121, 3) := by decide +kernel
theorem d_W_row_24 : decode y_W_row.2.1 24 = .ok (.aload_n 0, 1) := by decide +kernel
theorem d_W_row_25 : decode y_W_row.2.1 25 = .ok (.getfield 42, 3) := by decide +kernel
theorem d_W_row_28 : decode y_W_row.2.1 28 = .ok (.getfield 217, 3) := by decide +kernel
theorem d_W_row_31 : decode y_W_row.2.1 31 = .ok (.iload_n 1, 1) := by decide +kernel
theorem d_W_row_32 : decode y_W_row.2.1 32 = .ok (.iaload, 1) := by decide +kernel
theorem d_W_row_33 : decode y_W_row.2.1 33 = .ok (.aload_n 0, 1) := by decide +kernel
theorem d_W_row_34 : decode y_W_row.2.1 34 = .ok (.getfield 42, 3) := by decide +kernel
theorem d_W_row_37 : decode y_W_row.2.1 37 = .ok (.getfield 220, 3) := by decide +kernel
theorem d_W_row_40 : decode y_W_row.2.1 40 = .ok (.iload_n 1, 1) := by decide +kernel
theorem d_W_row_41 : decode y_W_row.2.1 41 = .ok (.iaload, 1) := by decide +kernel
theorem d_W_row_42 : decode y_W_row.2.1 42 = .ok (.iload_n 2, 1) := by decide +kernel
theorem d_W_row_43 : decode y_W_row.2.1 43 = .ok (.invokevirtual 214, 3) := by decide +kernel
theorem d_W_row_46 : decode y_W_row.2.1 46 = .ok (.ireturn, 1) := by decide +kernel
def y_W_group : ab_Y := (⟨"WorldEngine", "group", "(I)I"⟩, prog_1_method_19_code, 2, (some FieldType.int), [])
theorem d_W_group_0 : decode y_W_group.2.1 0 = .ok (.iload_n 1, 1) := by decide +kernel
theorem d_W_group_1 : decode y_W_group.2.1 1 = .ok (.ifCond .lt 14, 3) := by decide +kernel
theorem d_W_group_4 : decode y_W_group.2.1 4 = .ok (.iload_n 1, 1) := by decide +kernel
theorem d_W_group_5 : decode y_W_group.2.1 5 = .ok (.aload_n 0, 1) := by decide +kernel
theorem d_W_group_6 : decode y_W_group.2.1 6 = .ok (.getfield 42, 3) := by decide +kernel
theorem d_W_group_9 : decode y_W_group.2.1 9 = .ok (.getfield 104, 3) := by decide +kernel
theorem d_W_group_12 : decode y_W_group.2.1 12 = .ok (.if_icmp .lt 5, 3) := by decide +kernel
theorem d_W_group_15 : decode y_W_group.2.1 15 = .ok (.iconst (-1), 1) := by decide +kernel
theorem d_W_group_16 : decode y_W_group.2.1 16 = .ok (.ireturn, 1) := by decide +kernel
theorem d_W_group_17 : decode y_W_group.2.1 17 = .ok (.aload_n 0, 1) := by decide +kernel
theorem d_W_group_18 : decode y_W_group.2.1 18 = .ok (.getfield 42, 3) := by decide +kernel
theorem d_W_group_21 : decode y_W_group.2.1 21 = .ok (.getfield 223, 3) := by decide +kernel
theorem d_W_group_24 : decode y_W_group.2.1 24 = .ok (.iload_n 1, 1) := by decide +kernel
theorem d_W_group_25 : decode y_W_group.2.1 25 = .ok (.iaload, 1) := by decide +kernel
theorem d_W_group_26 : decode y_W_group.2.1 26 = .ok (.ireturn, 1) := by decide +kernel
def y_W_failure : ab_Y := (⟨"WorldEngine", "failure", "(I)I"⟩, prog_1_method_21_code, 3, (some FieldType.int), [])
theorem d_W_failure_0 : decode y_W_failure.2.1 0 = .ok (.aload_n 0, 1) := by decide +kernel
theorem d_W_failure_1 : decode y_W_failure.2.1 1 = .ok (.getfield 28, 3) := by decide +kernel
theorem d_W_failure_4 : decode y_W_failure.2.1 4 = .ok (.getfield 121, 3) := by decide +kernel
theorem d_W_failure_7 : decode y_W_failure.2.1 7 = .ok (.astore_n 2, 1) := by decide +kernel
theorem d_W_failure_8 : decode y_W_failure.2.1 8 = .ok (.aload_n 2, 1) := by decide +kernel
theorem d_W_failure_9 : decode y_W_failure.2.1 9 = .ok (.getfield 234, 3) := by decide +kernel
theorem d_W_failure_12 : decode y_W_failure.2.1 12 = .ok (.ifCond .ne 5, 3) := by decide +kernel
theorem d_W_failure_15 : decode y_W_failure.2.1 15 = .ok (.iconst (-1), 1) := by decide +kernel
theorem d_W_failure_16 : decode y_W_failure.2.1 16 = .ok (.ireturn, 1) := by decide +kernel
theorem d_W_failure_17 : decode y_W_failure.2.1 17 = .ok (.iload_n 1, 1) := by decide +kernel
theorem d_W_failure_18 : decode y_W_failure.2.1 18 = .ok (.tableswitch 41 0 2 #[26, 31, 36], 26) := by decide +kernel
theorem d_W_failure_44 : decode y_W_failure.2.1 44 = .ok (.aload_n 2, 1) := by decide +kernel
theorem d_W_failure_45 : decode y_W_failure.2.1 45 = .ok (.getfield 237, 3) := by decide +kernel
theorem d_W_failure_48 : decode y_W_failure.2.1 48 = .ok (.ireturn, 1) := by decide +kernel
theorem d_W_failure_49 : decode y_W_failure.2.1 49 = .ok (.aload_n 2, 1) := by decide +kernel
theorem d_W_failure_50 : decode y_W_failure.2.1 50 = .ok (.getfield 240, 3) := by decide +kernel
theorem d_W_failure_53 : decode y_W_failure.2.1 53 = .ok (.ireturn, 1) := by decide +kernel
theorem d_W_failure_54 : decode y_W_failure.2.1 54 = .ok (.aload_n 2, 1) := by decide +kernel
theorem d_W_failure_55 : decode y_W_failure.2.1 55 = .ok (.getfield 234, 3) := by decide +kernel
theorem d_W_failure_58 : decode y_W_failure.2.1 58 = .ok (.ireturn, 1) := by decide +kernel
theorem d_W_failure_59 : decode y_W_failure.2.1 59 = .ok (.iconst (-1), 1) := by decide +kernel
theorem d_W_failure_60 : decode y_W_failure.2.1 60 = .ok (.ireturn, 1) := by decide +kernel
def y_W_pending : ab_Y := (⟨"WorldEngine", "pending", "(II)I"⟩, prog_1_method_22_code, 5, (some FieldType.int), [])
theorem d_W_pending_0 : decode y_W_pending.2.1 0 = .ok (.aload_n 0, 1) := by decide +kernel
theorem d_W_pending_1 : decode y_W_pending.2.1 1 = .ok (.getfield 28, 3) := by decide +kernel
theorem d_W_pending_4 : decode y_W_pending.2.1 4 = .ok (.getfield 121, 3) := by decide +kernel
theorem d_W_pending_7 : decode y_W_pending.2.1 7 = .ok (.astore_n 3, 1) := by decide +kernel
theorem d_W_pending_8 : decode y_W_pending.2.1 8 = .ok (.iload_n 1, 1) := by decide +kernel
theorem d_W_pending_9 : decode y_W_pending.2.1 9 = .ok (.ifCond .lt 21, 3) := by decide +kernel
theorem d_W_pending_12 : decode y_W_pending.2.1 12 = .ok (.iload_n 1, 1) := by decide +kernel
theorem d_W_pending_13 : decode y_W_pending.2.1 13 = .ok (.aload_n 3, 1) := by decide +kernel
theorem d_W_pending_14 : decode y_W_pending.2.1 14 = .ok (.getfield 243, 3) := by decide +kernel
theorem d_W_pending_17 : decode y_W_pending.2.1 17 = .ok (.if_icmp .ge 13, 3) := by decide +kernel
theorem d_W_pending_20 : decode y_W_pending.2.1 20 = .ok (.iload_n 2, 1) := by decide +kernel
theorem d_W_pending_21 : decode y_W_pending.2.1 21 = .ok (.ifCond .lt 9, 3) := by decide +kernel
theorem d_W_pending_24 : decode y_W_pending.2.1 24 = .ok (.iload_n 2, 1) := by decide +kernel
theorem d_W_pending_25 : decode y_W_pending.2.1 25 = .ok (.bipush 7, 2) := by decide +kernel
theorem d_W_pending_27 : decode y_W_pending.2.1 27 = .ok (.if_icmp .lt 5, 3) := by decide +kernel
theorem d_W_pending_30 : decode y_W_pending.2.1 30 = .ok (.iconst (-1), 1) := by decide +kernel
theorem d_W_pending_31 : decode y_W_pending.2.1 31 = .ok (.ireturn, 1) := by decide +kernel
theorem d_W_pending_32 : decode y_W_pending.2.1 32 = .ok (.aload_n 3, 1) := by decide +kernel
theorem d_W_pending_33 : decode y_W_pending.2.1 33 = .ok (.getfield 246, 3) := by decide +kernel
theorem d_W_pending_36 : decode y_W_pending.2.1 36 = .ok (.iload_n 1, 1) := by decide +kernel
theorem d_W_pending_37 : decode y_W_pending.2.1 37 = .ok (.bipush 7, 2) := by decide +kernel
theorem d_W_pending_39 : decode y_W_pending.2.1 39 = .ok (.imul, 1) := by decide +kernel
theorem d_W_pending_40 : decode y_W_pending.2.1 40 = .ok (.iaload, 1) := by decide +kernel
theorem d_W_pending_41 : decode y_W_pending.2.1 41 = .ok (.istore 4, 2) := by decide +kernel
theorem d_W_pending_43 : decode y_W_pending.2.1 43 = .ok (.iload_n 2, 1) := by decide +kernel
theorem d_W_pending_44 : decode y_W_pending.2.1 44 = .ok (.iconst 3, 1) := by decide +kernel
theorem d_W_pending_45 : decode y_W_pending.2.1 45 = .ok (.if_icmp .lt 23, 3) := by decide +kernel
theorem d_W_pending_48 : decode y_W_pending.2.1 48 = .ok (.iload_n 2, 1) := by decide +kernel
theorem d_W_pending_49 : decode y_W_pending.2.1 49 = .ok (.iconst 3, 1) := by decide +kernel
theorem d_W_pending_50 : decode y_W_pending.2.1 50 = .ok (.isub, 1) := by decide +kernel
theorem d_W_pending_51 : decode y_W_pending.2.1 51 = .ok (.aload_n 0, 1) := by decide +kernel
theorem d_W_pending_52 : decode y_W_pending.2.1 52 = .ok (.getfield 42, 3) := by decide +kernel
theorem d_W_pending_55 : decode y_W_pending.2.1 55 = .ok (.getfield 249, 3) := by decide +kernel
theorem d_W_pending_58 : decode y_W_pending.2.1 58 = .ok (.iload 4, 2) := by decide +kernel
theorem d_W_pending_60 : decode y_W_pending.2.1 60 = .ok (.invokevirtual 207, 3) := by decide +kernel
theorem d_W_pending_63 : decode y_W_pending.2.1 63 = .ok (.if_icmp .lt 5, 3) := by decide +kernel
theorem d_W_pending_66 : decode y_W_pending.2.1 66 = .ok (.iconst (-1), 1) := by decide +kernel
theorem d_W_pending_67 : decode y_W_pending.2.1 67 = .ok (.ireturn, 1) := by decide +kernel
theorem d_W_pending_68 : decode y_W_pending.2.1 68 = .ok (.aload_n 3, 1) := by decide +kernel
theorem d_W_pending_69 : decode y_W_pending.2.1 69 = .ok (.getfield 246, 3) := by decide +kernel
theorem d_W_pending_72 : decode y_W_pending.2.1 72 = .ok (.iload_n 1, 1) := by decide +kernel
theorem d_W_pending_73 : decode y_W_pending.2.1 73 = .ok (.bipush 7, 2) := by decide +kernel
theorem d_W_pending_75 : decode y_W_pending.2.1 75 = .ok (.imul, 1) := by decide +kernel
theorem d_W_pending_76 : decode y_W_pending.2.1 76 = .ok (.iload_n 2, 1) := by decide +kernel
theorem d_W_pending_77 : decode y_W_pending.2.1 77 = .ok (.iadd, 1) := by decide +kernel
theorem d_W_pending_78 : decode y_W_pending.2.1 78 = .ok (.iaload, 1) := by decide +kernel
theorem d_W_pending_79 : decode y_W_pending.2.1 79 = .ok (.ireturn, 1) := by decide +kernel
def y_W_look : ab_Y := (⟨"WorldEngine", "look", "(I)I"⟩, prog_1_method_23_code, 2, (some FieldType.int), [])
theorem d_W_look_0 : decode y_W_look.2.1 0 = .ok (.iload_n 1, 1) := by decide +kernel
theorem d_W_look_1 : decode y_W_look.2.1 1 = .ok (.tableswitch 213 0 14 #[75, 83, 94, 105, 113, 124, 135, 146, 157, 165, 173, 181, 189, 197, 205], 75) := by decide +kernel
theorem d_W_look_76 : decode y_W_look.2.1 76 = .ok (.aload_n 0, 1) := by decide +kernel
theorem d_W_look_77 : decode y_W_look.2.1 77 = .ok (.getfield 42, 3) := by decide +kernel
theorem d_W_look_80 : decode y_W_look.2.1 80 = .ok (.getfield 104, 3) := by decide +kernel
theorem d_W_look_83 : decode y_W_look.2.1 83 = .ok (.ireturn, 1) := by decide +kernel
theorem d_W_look_84 : decode y_W_look.2.1 84 = .ok (.aload_n 0, 1) := by decide +kernel
theorem d_W_look_85 : decode y_W_look.2.1 85 = .ok (.getfield 42, 3) := by decide +kernel
theorem d_W_look_88 : decode y_W_look.2.1 88 = .ok (.getfield 90, 3) := by decide +kernel
theorem d_W_look_91 : decode y_W_look.2.1 91 = .ok (.getfield 163, 3) := by decide +kernel
theorem d_W_look_94 : decode y_W_look.2.1 94 = .ok (.ireturn, 1) := by decide +kernel
theorem d_W_look_95 : decode y_W_look.2.1 95 = .ok (.aload_n 0, 1) := by decide +kernel
theorem d_W_look_96 : decode y_W_look.2.1 96 = .ok (.getfield 28, 3) := by decide +kernel
theorem d_W_look_99 : decode y_W_look.2.1 99 = .ok (.getfield 121, 3) := by decide +kernel
theorem d_W_look_102 : decode y_W_look.2.1 102 = .ok (.getfield 125, 3) := by decide +kernel
theorem d_W_look_105 : decode y_W_look.2.1 105 = .ok (.ireturn, 1) := by decide +kernel
theorem d_W_look_106 : decode y_W_look.2.1 106 = .ok (.aload_n 0, 1) := by decide +kernel
theorem d_W_look_107 : decode y_W_look.2.1 107 = .ok (.getfield 28, 3) := by decide +kernel
theorem d_W_look_110 : decode y_W_look.2.1 110 = .ok (.getfield 252, 3) := by decide +kernel
theorem d_W_look_113 : decode y_W_look.2.1 113 = .ok (.ireturn, 1) := by decide +kernel
theorem d_W_look_114 : decode y_W_look.2.1 114 = .ok (.aload_n 0, 1) := by decide +kernel
theorem d_W_look_115 : decode y_W_look.2.1 115 = .ok (.getfield 28, 3) := by decide +kernel
theorem d_W_look_118 : decode y_W_look.2.1 118 = .ok (.getfield 121, 3) := by decide +kernel
theorem d_W_look_121 : decode y_W_look.2.1 121 = .ok (.invokevirtual 255, 3) := by decide +kernel
theorem d_W_look_124 : decode y_W_look.2.1 124 = .ok (.ireturn, 1) := by decide +kernel
theorem d_W_look_125 : decode y_W_look.2.1 125 = .ok (.aload_n 0, 1) := by decide +kernel
theorem d_W_look_126 : decode y_W_look.2.1 126 = .ok (.getfield 28, 3) := by decide +kernel
theorem d_W_look_129 : decode y_W_look.2.1 129 = .ok (.getfield 121, 3) := by decide +kernel
theorem d_W_look_132 : decode y_W_look.2.1 132 = .ok (.getfield 243, 3) := by decide +kernel
theorem d_W_look_135 : decode y_W_look.2.1 135 = .ok (.ireturn, 1) := by decide +kernel
theorem d_W_look_136 : decode y_W_look.2.1 136 = .ok (.aload_n 0, 1) := by decide +kernel
theorem d_W_look_137 : decode y_W_look.2.1 137 = .ok (.getfield 28, 3) := by decide +kernel
theorem d_W_look_140 : decode y_W_look.2.1 140 = .ok (.getfield 121, 3) := by decide +kernel
theorem d_W_look_143 : decode y_W_look.2.1 143 = .ok (.getfield 258, 3) := by decide +kernel
theorem d_W_look_146 : decode y_W_look.2.1 146 = .ok (.ireturn, 1) := by decide +kernel
theorem d_W_look_147 : decode y_W_look.2.1 147 = .ok (.aload_n 0, 1) := by decide +kernel
theorem d_W_look_148 : decode y_W_look.2.1 148 = .ok (.getfield 28, 3) := by decide +kernel
theorem d_W_look_151 : decode y_W_look.2.1 151 = .ok (.getfield 121, 3) := by decide +kernel
theorem d_W_look_154 : decode y_W_look.2.1 154 = .ok (.getfield 261, 3) := by decide +kernel
theorem d_W_look_157 : decode y_W_look.2.1 157 = .ok (.ireturn, 1) := by decide +kernel
theorem d_W_look_158 : decode y_W_look.2.1 158 = .ok (.aload_n 0, 1) := by decide +kernel
theorem d_W_look_159 : decode y_W_look.2.1 159 = .ok (.getfield 28, 3) := by decide +kernel
theorem d_W_look_162 : decode y_W_look.2.1 162 = .ok (.getfield 226, 3) := by decide +kernel
theorem d_W_look_165 : decode y_W_look.2.1 165 = .ok (.ireturn, 1) := by decide +kernel
theorem d_W_look_166 : decode y_W_look.2.1 166 = .ok (.aload_n 0, 1) := by decide +kernel
theorem d_W_look_167 : decode y_W_look.2.1 167 = .ok (.getfield 35, 3) := by decide +kernel
theorem d_W_look_170 : decode y_W_look.2.1 170 = .ok (.getfield 264, 3) := by decide +kernel
theorem d_W_look_173 : decode y_W_look.2.1 173 = .ok (.ireturn, 1) := by decide +kernel
theorem d_W_look_174 : decode y_W_look.2.1 174 = .ok (.aload_n 0, 1) := by decide +kernel
theorem d_W_look_175 : decode y_W_look.2.1 175 = .ok (.getfield 42, 3) := by decide +kernel
theorem d_W_look_178 : decode y_W_look.2.1 178 = .ok (.getfield 265, 3) := by decide +kernel
theorem d_W_look_181 : decode y_W_look.2.1 181 = .ok (.ireturn, 1) := by decide +kernel
theorem d_W_look_182 : decode y_W_look.2.1 182 = .ok (.aload_n 0, 1) := by decide +kernel
theorem d_W_look_183 : decode y_W_look.2.1 183 = .ok (.getfield 62, 3) := by decide +kernel
theorem d_W_look_186 : decode y_W_look.2.1 186 = .ok (.invokestatic 268, 3) := by decide +kernel
theorem d_W_look_189 : decode y_W_look.2.1 189 = .ok (.ireturn, 1) := by decide +kernel
theorem d_W_look_190 : decode y_W_look.2.1 190 = .ok (.aload_n 0, 1) := by decide +kernel
theorem d_W_look_191 : decode y_W_look.2.1 191 = .ok (.getfield 28, 3) := by decide +kernel
theorem d_W_look_194 : decode y_W_look.2.1 194 = .ok (.getfield 273, 3) := by decide +kernel
theorem d_W_look_197 : decode y_W_look.2.1 197 = .ok (.ireturn, 1) := by decide +kernel
theorem d_W_look_198 : decode y_W_look.2.1 198 = .ok (.aload_n 0, 1) := by decide +kernel
theorem d_W_look_199 : decode y_W_look.2.1 199 = .ok (.getfield 10, 3) := by decide +kernel
theorem d_W_look_202 : decode y_W_look.2.1 202 = .ok (.getfield 77, 3) := by decide +kernel
theorem d_W_look_205 : decode y_W_look.2.1 205 = .ok (.ireturn, 1) := by decide +kernel
theorem d_W_look_206 : decode y_W_look.2.1 206 = .ok (.aload_n 0, 1) := by decide +kernel
theorem d_W_look_207 : decode y_W_look.2.1 207 = .ok (.getfield 28, 3) := by decide +kernel
theorem d_W_look_210 : decode y_W_look.2.1 210 = .ok (.getfield 276, 3) := by decide +kernel
theorem d_W_look_213 : decode y_W_look.2.1 213 = .ok (.ireturn, 1) := by decide +kernel
theorem d_W_look_214 : decode y_W_look.2.1 214 = .ok (.iconst (-1), 1) := by decide +kernel
theorem d_W_look_215 : decode y_W_look.2.1 215 = .ok (.ireturn, 1) := by decide +kernel
def y_W_sum : ab_Y := (⟨"WorldEngine", "sum", "()I"⟩, prog_1_method_24_code, 1, (some FieldType.int), [])
theorem d_W_sum_0 : decode y_W_sum.2.1 0 = .ok (.aload_n 0, 1) := by decide +kernel
theorem d_W_sum_1 : decode y_W_sum.2.1 1 = .ok (.getfield 35, 3) := by decide +kernel
theorem d_W_sum_4 : decode y_W_sum.2.1 4 = .ok (.aload_n 0, 1) := by decide +kernel
theorem d_W_sum_5 : decode y_W_sum.2.1 5 = .ok (.getfield 42, 3) := by decide +kernel
theorem d_W_sum_8 : decode y_W_sum.2.1 8 = .ok (.aload_n 0, 1) := by decide +kernel
theorem d_W_sum_9 : decode y_W_sum.2.1 9 = .ok (.getfield 28, 3) := by decide +kernel
theorem d_W_sum_12 : decode y_W_sum.2.1 12 = .ok (.getfield 121, 3) := by decide +kernel
theorem d_W_sum_15 : decode y_W_sum.2.1 15 = .ok (.iconst 0, 1) := by decide +kernel
theorem d_W_sum_16 : decode y_W_sum.2.1 16 = .ok (.invokevirtual 279, 3) := by decide +kernel
theorem d_W_sum_19 : decode y_W_sum.2.1 19 = .ok (.ireturn, 1) := by decide +kernel
def y_W_save : ab_Y := (⟨"WorldEngine", "save", "()I"⟩, prog_1_method_25_code, 1, (some FieldType.int), [])
theorem d_W_save_0 : decode y_W_save.2.1 0 = .ok (.aload_n 0, 1) := by decide +kernel
theorem d_W_save_1 : decode y_W_save.2.1 1 = .ok (.getfield 28, 3) := by decide +kernel
theorem d_W_save_4 : decode y_W_save.2.1 4 = .ok (.invokevirtual 110, 3) := by decide +kernel
theorem d_W_save_7 : decode y_W_save.2.1 7 = .ok (.ifCond .ne 6, 3) := by decide +kernel
theorem d_W_save_10 : decode y_W_save.2.1 10 = .ok (.bipush (-10), 2) := by decide +kernel
theorem d_W_save_12 : decode y_W_save.2.1 12 = .ok (.ireturn, 1) := by decide +kernel
theorem d_W_save_13 : decode y_W_save.2.1 13 = .ok (.aload_n 0, 1) := by decide +kernel
theorem d_W_save_14 : decode y_W_save.2.1 14 = .ok (.getfield 35, 3) := by decide +kernel
theorem d_W_save_17 : decode y_W_save.2.1 17 = .ok (.aload_n 0, 1) := by decide +kernel
theorem d_W_save_18 : decode y_W_save.2.1 18 = .ok (.getfield 42, 3) := by decide +kernel
theorem d_W_save_21 : decode y_W_save.2.1 21 = .ok (.aload_n 0, 1) := by decide +kernel
theorem d_W_save_22 : decode y_W_save.2.1 22 = .ok (.getfield 28, 3) := by decide +kernel
theorem d_W_save_25 : decode y_W_save.2.1 25 = .ok (.getfield 121, 3) := by decide +kernel
theorem d_W_save_28 : decode y_W_save.2.1 28 = .ok (.iconst 1, 1) := by decide +kernel
theorem d_W_save_29 : decode y_W_save.2.1 29 = .ok (.invokevirtual 279, 3) := by decide +kernel
theorem d_W_save_32 : decode y_W_save.2.1 32 = .ok (.pop, 1) := by decide +kernel
theorem d_W_save_33 : decode y_W_save.2.1 33 = .ok (.aload_n 0, 1) := by decide +kernel
theorem d_W_save_34 : decode y_W_save.2.1 34 = .ok (.getfield 35, 3) := by decide +kernel
theorem d_W_save_37 : decode y_W_save.2.1 37 = .ok (.getfield 264, 3) := by decide +kernel
theorem d_W_save_40 : decode y_W_save.2.1 40 = .ok (.ireturn, 1) := by decide +kernel
def y_W_bend : ab_Y := (⟨"WorldEngine", "bend", "(II)Z"⟩, prog_1_method_26_code, 3, (some FieldType.boolean), [])
theorem d_W_bend_0 : decode y_W_bend.2.1 0 = .ok (.iload_n 1, 1) := by decide +kernel
theorem d_W_bend_1 : decode y_W_bend.2.1 1 = .ok (.ifCond .lt 14, 3) := by decide +kernel
theorem d_W_bend_4 : decode y_W_bend.2.1 4 = .ok (.iload_n 1, 1) := by decide +kernel
theorem d_W_bend_5 : decode y_W_bend.2.1 5 = .ok (.aload_n 0, 1) := by decide +kernel
theorem d_W_bend_6 : decode y_W_bend.2.1 6 = .ok (.getfield 35, 3) := by decide +kernel
theorem d_W_bend_9 : decode y_W_bend.2.1 9 = .ok (.getfield 264, 3) := by decide +kernel
theorem d_W_bend_12 : decode y_W_bend.2.1 12 = .ok (.if_icmp .lt 5, 3) := by decide +kernel
theorem d_W_bend_15 : decode y_W_bend.2.1 15 = .ok (.iconst 0, 1) := by decide +kernel
theorem d_W_bend_16 : decode y_W_bend.2.1 16 = .ok (.ireturn, 1) := by decide +kernel
theorem d_W_bend_17 : decode y_W_bend.2.1 17 = .ok (.aload_n 0, 1) := by decide +kernel
theorem d_W_bend_18 : decode y_W_bend.2.1 18 = .ok (.getfield 35, 3) := by decide +kernel
theorem d_W_bend_21 : decode y_W_bend.2.1 21 = .ok (.getfield 282, 3) := by decide +kernel
theorem d_W_bend_24 : decode y_W_bend.2.1 24 = .ok (.iload_n 1, 1) := by decide +kernel
theorem d_W_bend_25 : decode y_W_bend.2.1 25 = .ok (.dup2, 1) := by decide +kernel
theorem d_W_bend_26 : decode y_W_bend.2.1 26 = .ok (.baload, 1) := by decide +kernel
theorem d_W_bend_27 : decode y_W_bend.2.1 27 = .ok (.iload_n 2, 1) := by decide +kernel
theorem d_W_bend_28 : decode y_W_bend.2.1 28 = .ok (.i2b, 1) := by decide +kernel
theorem d_W_bend_29 : decode y_W_bend.2.1 29 = .ok (.ixor, 1) := by decide +kernel
theorem d_W_bend_30 : decode y_W_bend.2.1 30 = .ok (.i2b, 1) := by decide +kernel
theorem d_W_bend_31 : decode y_W_bend.2.1 31 = .ok (.bastore, 1) := by decide +kernel
theorem d_W_bend_32 : decode y_W_bend.2.1 32 = .ok (.iconst 1, 1) := by decide +kernel
theorem d_W_bend_33 : decode y_W_bend.2.1 33 = .ok (.ireturn, 1) := by decide +kernel
def y_W_cut : ab_Y := (⟨"WorldEngine", "cut", "(I)Z"⟩, prog_1_method_27_code, 2, (some FieldType.boolean), [])
theorem d_W_cut_0 : decode y_W_cut.2.1 0 = .ok (.iload_n 1, 1) := by decide +kernel
theorem d_W_cut_1 : decode y_W_cut.2.1 1 = .ok (.ifCond .lt 14, 3) := by decide +kernel
theorem d_W_cut_4 : decode y_W_cut.2.1 4 = .ok (.iload_n 1, 1) := by decide +kernel
theorem d_W_cut_5 : decode y_W_cut.2.1 5 = .ok (.aload_n 0, 1) := by decide +kernel
theorem d_W_cut_6 : decode y_W_cut.2.1 6 = .ok (.getfield 35, 3) := by decide +kernel
theorem d_W_cut_9 : decode y_W_cut.2.1 9 = .ok (.getfield 264, 3) := by decide +kernel
theorem d_W_cut_12 : decode y_W_cut.2.1 12 = .ok (.if_icmp .le 5, 3) := by decide +kernel
theorem d_W_cut_15 : decode y_W_cut.2.1 15 = .ok (.iconst 0, 1) := by decide +kernel
theorem d_W_cut_16 : decode y_W_cut.2.1 16 = .ok (.ireturn, 1) := by decide +kernel
theorem d_W_cut_17 : decode y_W_cut.2.1 17 = .ok (.aload_n 0, 1) := by decide +kernel
theorem d_W_cut_18 : decode y_W_cut.2.1 18 = .ok (.getfield 35, 3) := by decide +kernel
theorem d_W_cut_21 : decode y_W_cut.2.1 21 = .ok (.iload_n 1, 1) := by decide +kernel
theorem d_W_cut_22 : decode y_W_cut.2.1 22 = .ok (.putfield 264, 3) := by decide +kernel
theorem d_W_cut_25 : decode y_W_cut.2.1 25 = .ok (.iconst 1, 1) := by decide +kernel
theorem d_W_cut_26 : decode y_W_cut.2.1 26 = .ok (.ireturn, 1) := by decide +kernel
def y_W_byteOut : ab_Y := (⟨"WorldEngine", "byteOut", "(I)I"⟩, prog_1_method_28_code, 2, (some FieldType.int), [])
theorem d_W_byteOut_0 : decode y_W_byteOut.2.1 0 = .ok (.iload_n 1, 1) := by decide +kernel
theorem d_W_byteOut_1 : decode y_W_byteOut.2.1 1 = .ok (.ifCond .lt 14, 3) := by decide +kernel
theorem d_W_byteOut_4 : decode y_W_byteOut.2.1 4 = .ok (.iload_n 1, 1) := by decide +kernel
theorem d_W_byteOut_5 : decode y_W_byteOut.2.1 5 = .ok (.aload_n 0, 1) := by decide +kernel
theorem d_W_byteOut_6 : decode y_W_byteOut.2.1 6 = .ok (.getfield 35, 3) := by decide +kernel
theorem d_W_byteOut_9 : decode y_W_byteOut.2.1 9 = .ok (.getfield 264, 3) := by decide +kernel
theorem d_W_byteOut_12 : decode y_W_byteOut.2.1 12 = .ok (.if_icmp .lt 5, 3) := by decide +kernel
theorem d_W_byteOut_15 : decode y_W_byteOut.2.1 15 = .ok (.iconst (-1), 1) := by decide +kernel
theorem d_W_byteOut_16 : decode y_W_byteOut.2.1 16 = .ok (.ireturn, 1) := by decide +kernel
theorem d_W_byteOut_17 : decode y_W_byteOut.2.1 17 = .ok (.aload_n 0, 1) := by decide +kernel
theorem d_W_byteOut_18 : decode y_W_byteOut.2.1 18 = .ok (.getfield 35, 3) := by decide +kernel
theorem d_W_byteOut_21 : decode y_W_byteOut.2.1 21 = .ok (.getfield 282, 3) := by decide +kernel
theorem d_W_byteOut_24 : decode y_W_byteOut.2.1 24 = .ok (.iload_n 1, 1) := by decide +kernel
theorem d_W_byteOut_25 : decode y_W_byteOut.2.1 25 = .ok (.baload, 1) := by decide +kernel
theorem d_W_byteOut_26 : decode y_W_byteOut.2.1 26 = .ok (.sipush 255, 3) := by decide +kernel
theorem d_W_byteOut_29 : decode y_W_byteOut.2.1 29 = .ok (.iand, 1) := by decide +kernel
theorem d_W_byteOut_30 : decode y_W_byteOut.2.1 30 = .ok (.ireturn, 1) := by decide +kernel
def y_W_load : ab_Y := (⟨"WorldEngine", "load", "()I"⟩, prog_1_method_29_code, 2, (some FieldType.int), [])
theorem d_W_load_0 : decode y_W_load.2.1 0 = .ok (.aload_n 0, 1) := by decide +kernel
theorem d_W_load_1 : decode y_W_load.2.1 1 = .ok (.getfield 28, 3) := by decide +kernel
theorem d_W_load_4 : decode y_W_load.2.1 4 = .ok (.invokevirtual 110, 3) := by decide +kernel
theorem d_W_load_7 : decode y_W_load.2.1 7 = .ok (.ifCond .ne 7, 3) := by decide +kernel
theorem d_W_load_10 : decode y_W_load.2.1 10 = .ok (.ldc_w 286, 3) := by decide +kernel
theorem d_W_load_13 : decode y_W_load.2.1 13 = .ok (.ireturn, 1) := by decide +kernel
theorem d_W_load_14 : decode y_W_load.2.1 14 = .ok (.aload_n 0, 1) := by decide +kernel
theorem d_W_load_15 : decode y_W_load.2.1 15 = .ok (.getfield 49, 3) := by decide +kernel
theorem d_W_load_18 : decode y_W_load.2.1 18 = .ok (.ifCond .ne 7, 3) := by decide +kernel
theorem d_W_load_21 : decode y_W_load.2.1 21 = .ok (.ldc_w 287, 3) := by decide +kernel
theorem d_W_load_24 : decode y_W_load.2.1 24 = .ok (.ireturn, 1) := by decide +kernel
theorem d_W_load_25 : decode y_W_load.2.1 25 = .ok (.aload_n 0, 1) := by decide +kernel
theorem d_W_load_26 : decode y_W_load.2.1 26 = .ok (.getfield 28, 3) := by decide +kernel
theorem d_W_load_29 : decode y_W_load.2.1 29 = .ok (.invokevirtual 288, 3) := by decide +kernel
theorem d_W_load_32 : decode y_W_load.2.1 32 = .ok (.astore_n 1, 1) := by decide +kernel
theorem d_W_load_33 : decode y_W_load.2.1 33 = .ok (.aload_n 0, 1) := by decide +kernel
theorem d_W_load_34 : decode y_W_load.2.1 34 = .ok (.getfield 35, 3) := by decide +kernel
theorem d_W_load_37 : decode y_W_load.2.1 37 = .ok (.aload_n 0, 1) := by decide +kernel
theorem d_W_load_38 : decode y_W_load.2.1 38 = .ok (.getfield 42, 3) := by decide +kernel
theorem d_W_load_41 : decode y_W_load.2.1 41 = .ok (.aload_n 1, 1) := by decide +kernel
theorem d_W_load_42 : decode y_W_load.2.1 42 = .ok (.invokevirtual 292, 3) := by decide +kernel
theorem d_W_load_45 : decode y_W_load.2.1 45 = .ok (.ifCond .ne 13, 3) := by decide +kernel
theorem d_W_load_48 : decode y_W_load.2.1 48 = .ok (.iconst (-1), 1) := by decide +kernel
theorem d_W_load_49 : decode y_W_load.2.1 49 = .ok (.aload_n 0, 1) := by decide +kernel
theorem d_W_load_50 : decode y_W_load.2.1 50 = .ok (.getfield 35, 3) := by decide +kernel
theorem d_W_load_53 : decode y_W_load.2.1 53 = .ok (.getfield 296, 3) := by decide +kernel
theorem d_W_load_56 : decode y_W_load.2.1 56 = .ok (.isub, 1) := by decide +kernel
theorem d_W_load_57 : decode y_W_load.2.1 57 = .ok (.ireturn, 1) := by decide +kernel
theorem d_W_load_58 : decode y_W_load.2.1 58 = .ok (.aload_n 0, 1) := by decide +kernel
theorem d_W_load_59 : decode y_W_load.2.1 59 = .ok (.getfield 28, 3) := by decide +kernel
theorem d_W_load_62 : decode y_W_load.2.1 62 = .ok (.aload_n 1, 1) := by decide +kernel
theorem d_W_load_63 : decode y_W_load.2.1 63 = .ok (.invokevirtual 299, 3) := by decide +kernel
theorem d_W_load_66 : decode y_W_load.2.1 66 = .ok (.iconst 0, 1) := by decide +kernel
theorem d_W_load_67 : decode y_W_load.2.1 67 = .ok (.ireturn, 1) := by decide +kernel
def y_W_fall : ab_Y := (⟨"WorldEngine", "fall", "(I)Z"⟩, prog_1_method_30_code, 2, (some FieldType.boolean), [])
theorem d_W_fall_0 : decode y_W_fall.2.1 0 = .ok (.aload_n 0, 1) := by decide +kernel
theorem d_W_fall_1 : decode y_W_fall.2.1 1 = .ok (.iload_n 1, 1) := by decide +kernel
theorem d_W_fall_2 : decode y_W_fall.2.1 2 = .ok (.invokevirtual 303, 3) := by decide +kernel
theorem d_W_fall_5 : decode y_W_fall.2.1 5 = .ok (.ifCond .eq 26, 3) := by decide +kernel
theorem d_W_fall_8 : decode y_W_fall.2.1 8 = .ok (.aload_n 0, 1) := by decide +kernel
theorem d_W_fall_9 : decode y_W_fall.2.1 9 = .ok (.getfield 62, 3) := by decide +kernel
theorem d_W_fall_12 : decode y_W_fall.2.1 12 = .ok (.iload_n 1, 1) := by decide +kernel
theorem d_W_fall_13 : decode y_W_fall.2.1 13 = .ok (.ishr, 1) := by decide +kernel
theorem d_W_fall_14 : decode y_W_fall.2.1 14 = .ok (.iconst 1, 1) := by decide +kernel
theorem d_W_fall_15 : decode y_W_fall.2.1 15 = .ok (.iand, 1) := by decide +kernel
theorem d_W_fall_16 : decode y_W_fall.2.1 16 = .ok (.ifCond .eq 15, 3) := by decide +kernel
theorem d_W_fall_19 : decode y_W_fall.2.1 19 = .ok (.aload_n 0, 1) := by decide +kernel
theorem d_W_fall_20 : decode y_W_fall.2.1 20 = .ok (.getfield 66, 3) := by decide +kernel
theorem d_W_fall_23 : decode y_W_fall.2.1 23 = .ok (.iload_n 1, 1) := by decide +kernel
theorem d_W_fall_24 : decode y_W_fall.2.1 24 = .ok (.ishr, 1) := by decide +kernel
theorem d_W_fall_25 : decode y_W_fall.2.1 25 = .ok (.iconst 1, 1) := by decide +kernel
theorem d_W_fall_26 : decode y_W_fall.2.1 26 = .ok (.iand, 1) := by decide +kernel
theorem d_W_fall_27 : decode y_W_fall.2.1 27 = .ok (.iconst 1, 1) := by decide +kernel
theorem d_W_fall_28 : decode y_W_fall.2.1 28 = .ok (.if_icmp .ne 5, 3) := by decide +kernel
theorem d_W_fall_31 : decode y_W_fall.2.1 31 = .ok (.iconst 0, 1) := by decide +kernel
theorem d_W_fall_32 : decode y_W_fall.2.1 32 = .ok (.ireturn, 1) := by decide +kernel
theorem d_W_fall_33 : decode y_W_fall.2.1 33 = .ok (.aload_n 0, 1) := by decide +kernel
theorem d_W_fall_34 : decode y_W_fall.2.1 34 = .ok (.dup, 1) := by decide +kernel
theorem d_W_fall_35 : decode y_W_fall.2.1 35 = .ok (.getfield 66, 3) := by decide +kernel
theorem d_W_fall_38 : decode y_W_fall.2.1 38 = .ok (.iconst 1, 1) := by decide +kernel
theorem d_W_fall_39 : decode y_W_fall.2.1 39 = .ok (.iload_n 1, 1) := by decide +kernel
theorem d_W_fall_40 : decode y_W_fall.2.1 40 = .ok (.ishl, 1) := by decide +kernel
theorem d_W_fall_41 : decode y_W_fall.2.1 41 = .ok (.ior, 1) := by decide +kernel
theorem d_W_fall_42 : decode y_W_fall.2.1 42 = .ok (.putfield 66, 3) := by decide +kernel
theorem d_W_fall_45 : decode y_W_fall.2.1 45 = .ok (.iconst 1, 1) := by decide +kernel
theorem d_W_fall_46 : decode y_W_fall.2.1 46 = .ok (.ireturn, 1) := by decide +kernel
def y_W_isWorker : ab_Y := (⟨"WorldEngine", "isWorker", "(I)Z"⟩, prog_1_method_32_code, 2, (some FieldType.boolean), [])
theorem d_W_isWorker_0 : decode y_W_isWorker.2.1 0 = .ok (.iload_n 1, 1) := by decide +kernel
theorem d_W_isWorker_1 : decode y_W_isWorker.2.1 1 = .ok (.ifCond .lt 13, 3) := by decide +kernel
theorem d_W_isWorker_4 : decode y_W_isWorker.2.1 4 = .ok (.iload_n 1, 1) := by decide +kernel
theorem d_W_isWorker_5 : decode y_W_isWorker.2.1 5 = .ok (.bipush 8, 2) := by decide +kernel
theorem d_W_isWorker_7 : decode y_W_isWorker.2.1 7 = .ok (.if_icmp .ge 7, 3) := by decide +kernel
theorem d_W_isWorker_10 : decode y_W_isWorker.2.1 10 = .ok (.iconst 1, 1) := by decide +kernel
theorem d_W_isWorker_11 : decode y_W_isWorker.2.1 11 = .ok (.goto 4, 3) := by decide +kernel
theorem d_W_isWorker_14 : decode y_W_isWorker.2.1 14 = .ok (.iconst 0, 1) := by decide +kernel
theorem d_W_isWorker_15 : decode y_W_isWorker.2.1 15 = .ok (.ireturn, 1) := by decide +kernel
def y_W_stand : ab_Y := (⟨"WorldEngine", "stand", "(I)Z"⟩, prog_1_method_31_code, 2, (some FieldType.boolean), [])
theorem d_W_stand_0 : decode y_W_stand.2.1 0 = .ok (.aload_n 0, 1) := by decide +kernel
theorem d_W_stand_1 : decode y_W_stand.2.1 1 = .ok (.iload_n 1, 1) := by decide +kernel
theorem d_W_stand_2 : decode y_W_stand.2.1 2 = .ok (.invokevirtual 303, 3) := by decide +kernel
theorem d_W_stand_5 : decode y_W_stand.2.1 5 = .ok (.ifCond .ne 5, 3) := by decide +kernel
theorem d_W_stand_8 : decode y_W_stand.2.1 8 = .ok (.iconst 0, 1) := by decide +kernel
theorem d_W_stand_9 : decode y_W_stand.2.1 9 = .ok (.ireturn, 1) := by decide +kernel
theorem d_W_stand_10 : decode y_W_stand.2.1 10 = .ok (.aload_n 0, 1) := by decide +kernel
theorem d_W_stand_11 : decode y_W_stand.2.1 11 = .ok (.getfield 62, 3) := by decide +kernel
theorem d_W_stand_14 : decode y_W_stand.2.1 14 = .ok (.aload_n 0, 1) := by decide +kernel
theorem d_W_stand_15 : decode y_W_stand.2.1 15 = .ok (.getfield 66, 3) := by decide +kernel
theorem d_W_stand_18 : decode y_W_stand.2.1 18 = .ok (.iconst (-1), 1) := by decide +kernel
theorem d_W_stand_19 : decode y_W_stand.2.1 19 = .ok (.ixor, 1) := by decide +kernel
theorem d_W_stand_20 : decode y_W_stand.2.1 20 = .ok (.iand, 1) := by decide +kernel
theorem d_W_stand_21 : decode y_W_stand.2.1 21 = .ok (.iload_n 1, 1) := by decide +kernel
theorem d_W_stand_22 : decode y_W_stand.2.1 22 = .ok (.ishr, 1) := by decide +kernel
theorem d_W_stand_23 : decode y_W_stand.2.1 23 = .ok (.iconst 1, 1) := by decide +kernel
theorem d_W_stand_24 : decode y_W_stand.2.1 24 = .ok (.iand, 1) := by decide +kernel
theorem d_W_stand_25 : decode y_W_stand.2.1 25 = .ok (.iconst 1, 1) := by decide +kernel
theorem d_W_stand_26 : decode y_W_stand.2.1 26 = .ok (.if_icmp .ne 5, 3) := by decide +kernel
theorem d_W_stand_29 : decode y_W_stand.2.1 29 = .ok (.iconst 0, 1) := by decide +kernel
theorem d_W_stand_30 : decode y_W_stand.2.1 30 = .ok (.ireturn, 1) := by decide +kernel
theorem d_W_stand_31 : decode y_W_stand.2.1 31 = .ok (.aload_n 0, 1) := by decide +kernel
theorem d_W_stand_32 : decode y_W_stand.2.1 32 = .ok (.dup, 1) := by decide +kernel
theorem d_W_stand_33 : decode y_W_stand.2.1 33 = .ok (.getfield 62, 3) := by decide +kernel
theorem d_W_stand_36 : decode y_W_stand.2.1 36 = .ok (.iconst 1, 1) := by decide +kernel
theorem d_W_stand_37 : decode y_W_stand.2.1 37 = .ok (.iload_n 1, 1) := by decide +kernel
theorem d_W_stand_38 : decode y_W_stand.2.1 38 = .ok (.ishl, 1) := by decide +kernel
theorem d_W_stand_39 : decode y_W_stand.2.1 39 = .ok (.ior, 1) := by decide +kernel
theorem d_W_stand_40 : decode y_W_stand.2.1 40 = .ok (.putfield 62, 3) := by decide +kernel
theorem d_W_stand_43 : decode y_W_stand.2.1 43 = .ok (.aload_n 0, 1) := by decide +kernel
theorem d_W_stand_44 : decode y_W_stand.2.1 44 = .ok (.dup, 1) := by decide +kernel
theorem d_W_stand_45 : decode y_W_stand.2.1 45 = .ok (.getfield 66, 3) := by decide +kernel
theorem d_W_stand_48 : decode y_W_stand.2.1 48 = .ok (.iconst 1, 1) := by decide +kernel
theorem d_W_stand_49 : decode y_W_stand.2.1 49 = .ok (.iload_n 1, 1) := by decide +kernel
theorem d_W_stand_50 : decode y_W_stand.2.1 50 = .ok (.ishl, 1) := by decide +kernel
theorem d_W_stand_51 : decode y_W_stand.2.1 51 = .ok (.iconst (-1), 1) := by decide +kernel
theorem d_W_stand_52 : decode y_W_stand.2.1 52 = .ok (.ixor, 1) := by decide +kernel
theorem d_W_stand_53 : decode y_W_stand.2.1 53 = .ok (.iand, 1) := by decide +kernel
theorem d_W_stand_54 : decode y_W_stand.2.1 54 = .ok (.putfield 66, 3) := by decide +kernel
theorem d_W_stand_57 : decode y_W_stand.2.1 57 = .ok (.iconst 1, 1) := by decide +kernel
theorem d_W_stand_58 : decode y_W_stand.2.1 58 = .ok (.ireturn, 1) := by decide +kernel
def y_W_pace : ab_Y := (⟨"WorldEngine", "pace", "(I)V"⟩, prog_1_method_33_code, 2, none, [])
theorem d_W_pace_0 : decode y_W_pace.2.1 0 = .ok (.return_, 1) := by decide +kernel
def y_W_get : ab_Y := (⟨"WorldEngine", "get", "(III)I"⟩, prog_1_method_14_code, 5, (some FieldType.int), [])
theorem d_W_get_0 : decode y_W_get.2.1 0 = .ok (.aload_n 0, 1) := by decide +kernel
theorem d_W_get_1 : decode y_W_get.2.1 1 = .ok (.iload_n 1, 1) := by decide +kernel
theorem d_W_get_2 : decode y_W_get.2.1 2 = .ok (.iload_n 2, 1) := by decide +kernel
theorem d_W_get_3 : decode y_W_get.2.1 3 = .ok (.iload_n 3, 1) := by decide +kernel
theorem d_W_get_4 : decode y_W_get.2.1 4 = .ok (.invokevirtual 177, 3) := by decide +kernel
theorem d_W_get_7 : decode y_W_get.2.1 7 = .ok (.istore 4, 2) := by decide +kernel
theorem d_W_get_9 : decode y_W_get.2.1 9 = .ok (.iload 4, 2) := by decide +kernel
theorem d_W_get_11 : decode y_W_get.2.1 11 = .ok (.ifCond .ge 13, 3) := by decide +kernel
theorem d_W_get_14 : decode y_W_get.2.1 14 = .ok (.new 194, 3) := by decide +kernel
theorem d_W_get_17 : decode y_W_get.2.1 17 = .ok (.dup, 1) := by decide +kernel
theorem d_W_get_18 : decode y_W_get.2.1 18 = .ok (.ldc 196, 2) := by decide +kernel
theorem d_W_get_20 : decode y_W_get.2.1 20 = .ok (.invokespecial 198, 3) := by decide +kernel
theorem d_W_get_23 : decode y_W_get.2.1 23 = .ok (.athrow, 1) := by decide +kernel
theorem d_W_get_24 : decode y_W_get.2.1 24 = .ok (.aload_n 0, 1) := by decide +kernel
theorem d_W_get_25 : decode y_W_get.2.1 25 = .ok (.getfield 28, 3) := by decide +kernel
theorem d_W_get_28 : decode y_W_get.2.1 28 = .ok (.getfield 121, 3) := by decide +kernel
theorem d_W_get_31 : decode y_W_get.2.1 31 = .ok (.aload_n 0, 1) := by decide +kernel
theorem d_W_get_32 : decode y_W_get.2.1 32 = .ok (.getfield 28, 3) := by decide +kernel
theorem d_W_get_35 : decode y_W_get.2.1 35 = .ok (.getfield 121, 3) := by decide +kernel
theorem d_W_get_38 : decode y_W_get.2.1 38 = .ok (.iload_n 1, 1) := by decide +kernel
theorem d_W_get_39 : decode y_W_get.2.1 39 = .ok (.invokevirtual 157, 3) := by decide +kernel
theorem d_W_get_42 : decode y_W_get.2.1 42 = .ok (.iload 4, 2) := by decide +kernel
theorem d_W_get_44 : decode y_W_get.2.1 44 = .ok (.invokevirtual 201, 3) := by decide +kernel
theorem d_W_get_47 : decode y_W_get.2.1 47 = .ok (.ireturn, 1) := by decide +kernel
def y_W_shown : ab_Y := (⟨"WorldEngine", "shown", "(I)I"⟩, prog_1_method_20_code, 2, (some FieldType.int), [])
theorem d_W_shown_0 : decode y_W_shown.2.1 0 = .ok (.iload_n 1, 1) := by decide +kernel
theorem d_W_shown_1 : decode y_W_shown.2.1 1 = .ok (.ifCond .lt 20, 3) := by decide +kernel
theorem d_W_shown_4 : decode y_W_shown.2.1 4 = .ok (.iload_n 1, 1) := by decide +kernel
theorem d_W_shown_5 : decode y_W_shown.2.1 5 = .ok (.aload_n 0, 1) := by decide +kernel
theorem d_W_shown_6 : decode y_W_shown.2.1 6 = .ok (.getfield 28, 3) := by decide +kernel
theorem d_W_shown_9 : decode y_W_shown.2.1 9 = .ok (.getfield 226, 3) := by decide +kernel
theorem d_W_shown_12 : decode y_W_shown.2.1 12 = .ok (.sipush 256, 3) := by decide +kernel
theorem d_W_shown_15 : decode y_W_shown.2.1 15 = .ok (.invokestatic 53, 3) := by decide +kernel
theorem d_W_shown_18 : decode y_W_shown.2.1 18 = .ok (.if_icmp .lt 13, 3) := by decide +kernel
theorem d_W_shown_21 : decode y_W_shown.2.1 21 = .ok (.new 194, 3) := by decide +kernel
theorem d_W_shown_24 : decode y_W_shown.2.1 24 = .ok (.dup, 1) := by decide +kernel
theorem d_W_shown_25 : decode y_W_shown.2.1 25 = .ok (.ldc 229, 2) := by decide +kernel
theorem d_W_shown_27 : decode y_W_shown.2.1 27 = .ok (.invokespecial 198, 3) := by decide +kernel
theorem d_W_shown_30 : decode y_W_shown.2.1 30 = .ok (.athrow, 1) := by decide +kernel
theorem d_W_shown_31 : decode y_W_shown.2.1 31 = .ok (.aload_n 0, 1) := by decide +kernel
theorem d_W_shown_32 : decode y_W_shown.2.1 32 = .ok (.getfield 28, 3) := by decide +kernel
theorem d_W_shown_35 : decode y_W_shown.2.1 35 = .ok (.getfield 231, 3) := by decide +kernel
theorem d_W_shown_38 : decode y_W_shown.2.1 38 = .ok (.aload_n 0, 1) := by decide +kernel
theorem d_W_shown_39 : decode y_W_shown.2.1 39 = .ok (.getfield 28, 3) := by decide +kernel
theorem d_W_shown_42 : decode y_W_shown.2.1 42 = .ok (.getfield 226, 3) := by decide +kernel
theorem d_W_shown_45 : decode y_W_shown.2.1 45 = .ok (.iconst 1, 1) := by decide +kernel
theorem d_W_shown_46 : decode y_W_shown.2.1 46 = .ok (.isub, 1) := by decide +kernel
theorem d_W_shown_47 : decode y_W_shown.2.1 47 = .ok (.iload_n 1, 1) := by decide +kernel
theorem d_W_shown_48 : decode y_W_shown.2.1 48 = .ok (.isub, 1) := by decide +kernel
theorem d_W_shown_49 : decode y_W_shown.2.1 49 = .ok (.sipush 255, 3) := by decide +kernel
theorem d_W_shown_52 : decode y_W_shown.2.1 52 = .ok (.iand, 1) := by decide +kernel
theorem d_W_shown_53 : decode y_W_shown.2.1 53 = .ok (.iaload, 1) := by decide +kernel
theorem d_W_shown_54 : decode y_W_shown.2.1 54 = .ok (.ireturn, 1) := by decide +kernel
theorem s_W_init : ab_Stat y_W_init 1 := ⟨(k1 35 rfl rfl), (k1 1 rfl rfl), ⟨by decide, by decide⟩, by decide +kernel⟩
theorem i_W_init : Cond.instanceMethod y_W_init.1 ∈ ab_T := (k1 34 rfl rfl)
theorem s_W_feed : ab_Stat y_W_feed 5 := ⟨(k3 188 rfl rfl), (k1 1 rfl rfl), ⟨by decide, by decide⟩, by decide +kernel⟩
theorem i_W_feed : Cond.instanceMethod y_W_feed.1 ∈ ab_T := (k3 186 rfl rfl)
theorem v_W_feed : Cond.selects "WorldEngine" y_W_feed.1 y_W_feed.1 ∈ ab_T := (k3 187 rfl rfl)
theorem s_W_end : ab_Stat y_W_end 1 := ⟨(k3 200 rfl rfl), (k1 1 rfl rfl), ⟨by decide, by decide⟩, by decide +kernel⟩
theorem i_W_end : Cond.instanceMethod y_W_end.1 ∈ ab_T := (k3 198 rfl rfl)
theorem v_W_end : Cond.selects "WorldEngine" y_W_end.1 y_W_end.1 ∈ ab_T := (k3 199 rfl rfl)
theorem s_W_text : ab_Stat y_W_text 1 := ⟨(k3 204 rfl rfl), (k1 1 rfl rfl), ⟨by decide, by decide⟩, by decide +kernel⟩
theorem i_W_text : Cond.instanceMethod y_W_text.1 ∈ ab_T := (k3 202 rfl rfl)
theorem v_W_text : Cond.selects "WorldEngine" y_W_text.1 y_W_text.1 ∈ ab_T := (k3 203 rfl rfl)
theorem s_W_exchangePrograms : ab_Stat y_W_exchangePrograms 0 := ⟨(k6 72 rfl rfl), (k1 1 rfl rfl), ⟨by decide, by decide⟩, by decide +kernel⟩
theorem i_W_exchangePrograms : Cond.instanceMethod y_W_exchangePrograms.1 ∈ ab_T := (k6 71 rfl rfl)
theorem v_W_exchangePrograms : Cond.selects "WorldEngine" y_W_exchangePrograms.1 y_W_exchangePrograms.1 ∈ ab_T := ab_s (List.mem_of_getElem? (i := 61) rfl) rfl
theorem s_W_fault : ab_Stat y_W_fault 1 := ⟨(k6 90 rfl rfl), (k1 1 rfl rfl), ⟨by decide, by decide⟩, by decide +kernel⟩
theorem i_W_fault : Cond.instanceMethod y_W_fault.1 ∈ ab_T := (k6 88 rfl rfl)
theorem v_W_fault : Cond.selects "WorldEngine" y_W_fault.1 y_W_fault.1 ∈ ab_T := (k6 89 rfl rfl)
theorem s_W_swap : ab_Stat y_W_swap 0 := ⟨(k6 94 rfl rfl), (k1 1 rfl rfl), ⟨by decide, by decide⟩, by decide +kernel⟩
theorem i_W_swap : Cond.instanceMethod y_W_swap.1 ∈ ab_T := (k6 92 rfl rfl)
theorem v_W_swap : Cond.selects "WorldEngine" y_W_swap.1 y_W_swap.1 ∈ ab_T := (k6 93 rfl rfl)
theorem s_W_step : ab_Stat y_W_step 0 := ⟨(k6 163 rfl rfl), (k1 1 rfl rfl), ⟨by decide, by decide⟩, by decide +kernel⟩
theorem i_W_step : Cond.instanceMethod y_W_step.1 ∈ ab_T := (k6 161 rfl rfl)
theorem v_W_step : Cond.selects "WorldEngine" y_W_step.1 y_W_step.1 ∈ ab_T := (k6 162 rfl rfl)
theorem s_W_input : ab_Stat y_W_input 3 := ⟨(k7 145 rfl rfl), (k1 1 rfl rfl), ⟨by decide, by decide⟩, by decide +kernel⟩
theorem i_W_input : Cond.instanceMethod y_W_input.1 ∈ ab_T := (k7 143 rfl rfl)
theorem v_W_input : Cond.selects "WorldEngine" y_W_input.1 y_W_input.1 ∈ ab_T := (k7 144 rfl rfl)
theorem s_W_seat : ab_Stat y_W_seat 2 := ⟨(k7 162 rfl rfl), (k1 1 rfl rfl), ⟨by decide, by decide⟩, by decide +kernel⟩
theorem i_W_seat : Cond.instanceMethod y_W_seat.1 ∈ ab_T := (k7 160 rfl rfl)
theorem v_W_seat : Cond.selects "WorldEngine" y_W_seat.1 y_W_seat.1 ∈ ab_T := (k7 161 rfl rfl)
theorem s_W_make : ab_Stat y_W_make 1 := ⟨(k7 170 rfl rfl), (k1 1 rfl rfl), ⟨by decide, by decide⟩, by decide +kernel⟩
theorem i_W_make : Cond.instanceMethod y_W_make.1 ∈ ab_T := (k7 168 rfl rfl)
theorem v_W_make : Cond.selects "WorldEngine" y_W_make.1 y_W_make.1 ∈ ab_T := (k7 169 rfl rfl)
theorem s_W_change : ab_Stat y_W_change 3 := ⟨(k7 176 rfl rfl), (k1 1 rfl rfl), ⟨by decide, by decide⟩, by decide +kernel⟩
theorem i_W_change : Cond.instanceMethod y_W_change.1 ∈ ab_T := (k7 174 rfl rfl)
theorem v_W_change : Cond.selects "WorldEngine" y_W_change.1 y_W_change.1 ∈ ab_T := (k7 175 rfl rfl)
theorem s_W_set : ab_Stat y_W_set 4 := ⟨(k7 185 rfl rfl), (k1 1 rfl rfl), ⟨by decide, by decide⟩, by decide +kernel⟩
theorem i_W_set : Cond.instanceMethod y_W_set.1 ∈ ab_T := (k7 183 rfl rfl)
theorem v_W_set : Cond.selects "WorldEngine" y_W_set.1 y_W_set.1 ∈ ab_T := (k7 184 rfl rfl)
theorem s_W_offsetOf : ab_Stat y_W_offsetOf 3 := ⟨(k7 189 rfl rfl), (k1 1 rfl rfl), ⟨by decide, by decide⟩, by decide +kernel⟩
theorem i_W_offsetOf : Cond.instanceMethod y_W_offsetOf.1 ∈ ab_T := (k7 188 rfl rfl)
theorem v_W_offsetOf : Cond.selects "WorldEngine" y_W_offsetOf.1 y_W_offsetOf.1 ∈ ab_T := ab_s (List.mem_of_getElem? (i := 92) rfl) rfl
theorem s_W_has : ab_Stat y_W_has 2 := ⟨(k7 193 rfl rfl), (k1 1 rfl rfl), ⟨by decide, by decide⟩, by decide +kernel⟩
theorem i_W_has : Cond.instanceMethod y_W_has.1 ∈ ab_T := (k7 191 rfl rfl)
theorem v_W_has : Cond.selects "WorldEngine" y_W_has.1 y_W_has.1 ∈ ab_T := (k7 192 rfl rfl)
theorem s_W_entity : ab_Stat y_W_entity 1 := ⟨(k7 200 rfl rfl), (k1 1 rfl rfl), ⟨by decide, by decide⟩, by decide +kernel⟩
theorem i_W_entity : Cond.instanceMethod y_W_entity.1 ∈ ab_T := (k7 198 rfl rfl)
theorem v_W_entity : Cond.selects "WorldEngine" y_W_entity.1 y_W_entity.1 ∈ ab_T := (k7 199 rfl rfl)
theorem s_W_row : ab_Stat y_W_row 2 := ⟨(k7 210 rfl rfl), (k1 1 rfl rfl), ⟨by decide, by decide⟩, by decide +kernel⟩
theorem i_W_row : Cond.instanceMethod y_W_row.1 ∈ ab_T := (k7 208 rfl rfl)
theorem v_W_row : Cond.selects "WorldEngine" y_W_row.1 y_W_row.1 ∈ ab_T := (k7 209 rfl rfl)
theorem s_W_group : ab_Stat y_W_group 1 := ⟨(k7 214 rfl rfl), (k1 1 rfl rfl), ⟨by decide, by decide⟩, by decide +kernel⟩
theorem i_W_group : Cond.instanceMethod y_W_group.1 ∈ ab_T := (k7 212 rfl rfl)
theorem v_W_group : Cond.selects "WorldEngine" y_W_group.1 y_W_group.1 ∈ ab_T := (k7 213 rfl rfl)
theorem s_W_failure : ab_Stat y_W_failure 1 := ⟨(k7 218 rfl rfl), (k1 1 rfl rfl), ⟨by decide, by decide⟩, by decide +kernel⟩
theorem i_W_failure : Cond.instanceMethod y_W_failure.1 ∈ ab_T := (k7 216 rfl rfl)
theorem v_W_failure : Cond.selects "WorldEngine" y_W_failure.1 y_W_failure.1 ∈ ab_T := (k7 217 rfl rfl)
theorem s_W_pending : ab_Stat y_W_pending 2 := ⟨(k7 222 rfl rfl), (k1 1 rfl rfl), ⟨by decide, by decide⟩, by decide +kernel⟩
theorem i_W_pending : Cond.instanceMethod y_W_pending.1 ∈ ab_T := (k7 220 rfl rfl)
theorem v_W_pending : Cond.selects "WorldEngine" y_W_pending.1 y_W_pending.1 ∈ ab_T := (k7 221 rfl rfl)
theorem s_W_look : ab_Stat y_W_look 1 := ⟨(k7 226 rfl rfl), (k1 1 rfl rfl), ⟨by decide, by decide⟩, by decide +kernel⟩
theorem i_W_look : Cond.instanceMethod y_W_look.1 ∈ ab_T := (k7 224 rfl rfl)
theorem v_W_look : Cond.selects "WorldEngine" y_W_look.1 y_W_look.1 ∈ ab_T := (k7 225 rfl rfl)
theorem s_W_sum : ab_Stat y_W_sum 0 := ⟨(k7 235 rfl rfl), (k1 1 rfl rfl), ⟨by decide, by decide⟩, by decide +kernel⟩
theorem i_W_sum : Cond.instanceMethod y_W_sum.1 ∈ ab_T := (k7 233 rfl rfl)
theorem v_W_sum : Cond.selects "WorldEngine" y_W_sum.1 y_W_sum.1 ∈ ab_T := (k7 234 rfl rfl)
theorem s_W_save : ab_Stat y_W_save 0 := ⟨(k8 26 rfl rfl), (k1 1 rfl rfl), ⟨by decide, by decide⟩, by decide +kernel⟩
theorem i_W_save : Cond.instanceMethod y_W_save.1 ∈ ab_T := (k8 24 rfl rfl)
theorem v_W_save : Cond.selects "WorldEngine" y_W_save.1 y_W_save.1 ∈ ab_T := (k8 25 rfl rfl)
theorem s_W_bend : ab_Stat y_W_bend 2 := ⟨(k8 30 rfl rfl), (k1 1 rfl rfl), ⟨by decide, by decide⟩, by decide +kernel⟩
theorem i_W_bend : Cond.instanceMethod y_W_bend.1 ∈ ab_T := (k8 28 rfl rfl)
theorem v_W_bend : Cond.selects "WorldEngine" y_W_bend.1 y_W_bend.1 ∈ ab_T := (k8 29 rfl rfl)
theorem s_W_cut : ab_Stat y_W_cut 1 := ⟨(k8 34 rfl rfl), (k1 1 rfl rfl), ⟨by decide, by decide⟩, by decide +kernel⟩
theorem i_W_cut : Cond.instanceMethod y_W_cut.1 ∈ ab_T := (k8 32 rfl rfl)
theorem v_W_cut : Cond.selects "WorldEngine" y_W_cut.1 y_W_cut.1 ∈ ab_T := (k8 33 rfl rfl)
theorem s_W_byteOut : ab_Stat y_W_byteOut 1 := ⟨(k8 38 rfl rfl), (k1 1 rfl rfl), ⟨by decide, by decide⟩, by decide +kernel⟩
theorem i_W_byteOut : Cond.instanceMethod y_W_byteOut.1 ∈ ab_T := (k8 36 rfl rfl)
theorem v_W_byteOut : Cond.selects "WorldEngine" y_W_byteOut.1 y_W_byteOut.1 ∈ ab_T := (k8 37 rfl rfl)
theorem s_W_load : ab_Stat y_W_load 0 := ⟨(k8 42 rfl rfl), (k1 1 rfl rfl), ⟨by decide, by decide⟩, by decide +kernel⟩
theorem i_W_load : Cond.instanceMethod y_W_load.1 ∈ ab_T := (k8 40 rfl rfl)
theorem v_W_load : Cond.selects "WorldEngine" y_W_load.1 y_W_load.1 ∈ ab_T := (k8 41 rfl rfl)
theorem s_W_fall : ab_Stat y_W_fall 1 := ⟨(k8 98 rfl rfl), (k1 1 rfl rfl), ⟨by decide, by decide⟩, by decide +kernel⟩
theorem i_W_fall : Cond.instanceMethod y_W_fall.1 ∈ ab_T := (k8 96 rfl rfl)
theorem v_W_fall : Cond.selects "WorldEngine" y_W_fall.1 y_W_fall.1 ∈ ab_T := (k8 97 rfl rfl)
theorem s_W_isWorker : ab_Stat y_W_isWorker 1 := ⟨(k8 102 rfl rfl), (k1 1 rfl rfl), ⟨by decide, by decide⟩, by decide +kernel⟩
theorem i_W_isWorker : Cond.instanceMethod y_W_isWorker.1 ∈ ab_T := (k8 101 rfl rfl)
theorem v_W_isWorker : Cond.selects "WorldEngine" y_W_isWorker.1 y_W_isWorker.1 ∈ ab_T := ab_s (List.mem_of_getElem? (i := 105) rfl) rfl
theorem s_W_stand : ab_Stat y_W_stand 1 := ⟨(k8 106 rfl rfl), (k1 1 rfl rfl), ⟨by decide, by decide⟩, by decide +kernel⟩
theorem i_W_stand : Cond.instanceMethod y_W_stand.1 ∈ ab_T := (k8 104 rfl rfl)
theorem v_W_stand : Cond.selects "WorldEngine" y_W_stand.1 y_W_stand.1 ∈ ab_T := (k8 105 rfl rfl)
theorem s_W_pace : ab_Stat y_W_pace 1 := ⟨(k8 110 rfl rfl), (k1 1 rfl rfl), ⟨by decide, by decide⟩, by decide +kernel⟩
theorem i_W_pace : Cond.instanceMethod y_W_pace.1 ∈ ab_T := (k8 108 rfl rfl)
theorem v_W_pace : Cond.selects "WorldEngine" y_W_pace.1 y_W_pace.1 ∈ ab_T := (k8 109 rfl rfl)
theorem s_W_get : ab_Stat y_W_get 3 := ⟨(k8 121 rfl rfl), (k1 1 rfl rfl), ⟨by decide, by decide⟩, by decide +kernel⟩
theorem i_W_get : Cond.instanceMethod y_W_get.1 ∈ ab_T := (k8 119 rfl rfl)
theorem v_W_get : Cond.selects "WorldEngine" y_W_get.1 y_W_get.1 ∈ ab_T := (k8 120 rfl rfl)
theorem s_W_shown : ab_Stat y_W_shown 1 := ⟨(k8 145 rfl rfl), (k1 1 rfl rfl), ⟨by decide, by decide⟩, by decide +kernel⟩
theorem i_W_shown : Cond.instanceMethod y_W_shown.1 ∈ ab_T := (k8 143 rfl rfl)
theorem v_W_shown : Cond.selects "WorldEngine" y_W_shown.1 y_W_shown.1 ∈ ab_T := (k8 144 rfl rfl)
