def y_Str_indexOf : ab_Y := (⟨"java/lang/String", "indexOf", "(I)I"⟩, prog_25_method_79_code, 2, (some FieldType.int), [])
theorem d_Str_indexOf_0 : decode y_Str_indexOf.2.1 0 = .ok (.aload_n 0, 1) := by decide +kernel
theorem d_Str_indexOf_1 : decode y_Str_indexOf.2.1 1 = .ok (.iload_n 1, 1) := by decide +kernel
theorem d_Str_indexOf_2 : decode y_Str_indexOf.2.1 2 = .ok (.iconst 0, 1) := by decide +kernel
theorem d_Str_indexOf_3 : decode y_Str_indexOf.2.1 3 = .ok (.invokevirtual 633, 3) := by decide +kernel
theorem d_Str_indexOf_6 : decode y_Str_indexOf.2.1 6 = .ok (.ireturn, 1) := by decide +kernel
def y_Str_indexOf2 : ab_Y := (⟨"java/lang/String", "indexOf", "(II)I"⟩, prog_25_method_80_code, 3, (some FieldType.int), [])
theorem d_Str_indexOf2_0 : decode y_Str_indexOf2.2.1 0 = .ok (.aload_n 0, 1) := by decide +kernel
theorem d_Str_indexOf2_1 : decode y_Str_indexOf2.2.1 1 = .ok (.invokevirtual 492, 3) := by decide +kernel
theorem d_Str_indexOf2_4 : decode y_Str_indexOf2.2.1 4 = .ok (.ifCond .eq 19, 3) := by decide +kernel
theorem d_Str_indexOf2_7 : decode y_Str_indexOf2.2.1 7 = .ok (.aload_n 0, 1) := by decide +kernel
theorem d_Str_indexOf2_8 : decode y_Str_indexOf2.2.1 8 = .ok (.getfield 9, 3) := by decide +kernel
theorem d_Str_indexOf2_11 : decode y_Str_indexOf2.2.1 11 = .ok (.iload_n 1, 1) := by decide +kernel
theorem d_Str_indexOf2_12 : decode y_Str_indexOf2.2.1 12 = .ok (.iload_n 2, 1) := by decide +kernel
theorem d_Str_indexOf2_13 : decode y_Str_indexOf2.2.1 13 = .ok (.aload_n 0, 1) := by decide +kernel
theorem d_Str_indexOf2_14 : decode y_Str_indexOf2.2.1 14 = .ok (.invokevirtual 505, 3) := by decide +kernel
theorem d_Str_indexOf2_17 : decode y_Str_indexOf2.2.1 17 = .ok (.invokestatic 637, 3) := by decide +kernel
theorem d_Str_indexOf2_20 : decode y_Str_indexOf2.2.1 20 = .ok (.goto 16, 3) := by decide +kernel
theorem d_Str_indexOf2_23 : decode y_Str_indexOf2.2.1 23 = .ok (.aload_n 0, 1) := by decide +kernel
theorem d_Str_indexOf2_24 : decode y_Str_indexOf2.2.1 24 = .ok (.getfield 9, 3) := by decide +kernel
theorem d_Str_indexOf2_27 : decode y_Str_indexOf2.2.1 27 = .ok (.iload_n 1, 1) := by decide +kernel
theorem d_Str_indexOf2_28 : decode y_Str_indexOf2.2.1 28 = .ok (.iload_n 2, 1) := by decide +kernel
theorem d_Str_indexOf2_29 : decode y_Str_indexOf2.2.1 29 = .ok (.aload_n 0, 1) := by decide +kernel
theorem d_Str_indexOf2_30 : decode y_Str_indexOf2.2.1 30 = .ok (.invokevirtual 505, 3) := by decide +kernel
theorem d_Str_indexOf2_33 : decode y_Str_indexOf2.2.1 33 = .ok (.invokestatic 640, 3) := by decide +kernel
theorem d_Str_indexOf2_36 : decode y_Str_indexOf2.2.1 36 = .ok (.ireturn, 1) := by decide +kernel
def y_SL_indexOf : ab_Y := (⟨"java/lang/StringLatin1", "indexOf", "([BIII)I"⟩, prog_26_method_22_code, 4, (some FieldType.int), [])
theorem d_SL_indexOf_0 : decode y_SL_indexOf.2.1 0 = .ok (.iload_n 1, 1) := by decide +kernel
theorem d_SL_indexOf_1 : decode y_SL_indexOf.2.1 1 = .ok (.invokestatic 88, 3) := by decide +kernel
theorem d_SL_indexOf_4 : decode y_SL_indexOf.2.1 4 = .ok (.ifCond .ne 5, 3) := by decide +kernel
theorem d_SL_indexOf_7 : decode y_SL_indexOf.2.1 7 = .ok (.iconst (-1), 1) := by decide +kernel
theorem d_SL_indexOf_8 : decode y_SL_indexOf.2.1 8 = .ok (.ireturn, 1) := by decide +kernel
theorem d_SL_indexOf_9 : decode y_SL_indexOf.2.1 9 = .ok (.iload_n 2, 1) := by decide +kernel
theorem d_SL_indexOf_10 : decode y_SL_indexOf.2.1 10 = .ok (.iconst 0, 1) := by decide +kernel
theorem d_SL_indexOf_11 : decode y_SL_indexOf.2.1 11 = .ok (.invokestatic 92, 3) := by decide +kernel
theorem d_SL_indexOf_14 : decode y_SL_indexOf.2.1 14 = .ok (.istore_n 2, 1) := by decide +kernel
theorem d_SL_indexOf_15 : decode y_SL_indexOf.2.1 15 = .ok (.iload_n 3, 1) := by decide +kernel
theorem d_SL_indexOf_16 : decode y_SL_indexOf.2.1 16 = .ok (.aload_n 0, 1) := by decide +kernel
theorem d_SL_indexOf_17 : decode y_SL_indexOf.2.1 17 = .ok (.arraylength, 1) := by decide +kernel
theorem d_SL_indexOf_18 : decode y_SL_indexOf.2.1 18 = .ok (.invokestatic 38, 3) := by decide +kernel
theorem d_SL_indexOf_21 : decode y_SL_indexOf.2.1 21 = .ok (.istore_n 3, 1) := by decide +kernel
theorem d_SL_indexOf_22 : decode y_SL_indexOf.2.1 22 = .ok (.iload_n 2, 1) := by decide +kernel
theorem d_SL_indexOf_23 : decode y_SL_indexOf.2.1 23 = .ok (.iload_n 3, 1) := by decide +kernel
theorem d_SL_indexOf_24 : decode y_SL_indexOf.2.1 24 = .ok (.if_icmp .lt 5, 3) := by decide +kernel
theorem d_SL_indexOf_27 : decode y_SL_indexOf.2.1 27 = .ok (.iconst (-1), 1) := by decide +kernel
theorem d_SL_indexOf_28 : decode y_SL_indexOf.2.1 28 = .ok (.ireturn, 1) := by decide +kernel
theorem d_SL_indexOf_29 : decode y_SL_indexOf.2.1 29 = .ok (.aload_n 0, 1) := by decide +kernel
theorem d_SL_indexOf_30 : decode y_SL_indexOf.2.1 30 = .ok (.iload_n 1, 1) := by decide +kernel
theorem d_SL_indexOf_31 : decode y_SL_indexOf.2.1 31 = .ok (.iload_n 2, 1) := by decide +kernel
theorem d_SL_indexOf_32 : decode y_SL_indexOf.2.1 32 = .ok (.iload_n 3, 1) := by decide +kernel
theorem d_SL_indexOf_33 : decode y_SL_indexOf.2.1 33 = .ok (.invokestatic 95, 3) := by decide +kernel
theorem d_SL_indexOf_36 : decode y_SL_indexOf.2.1 36 = .ok (.ireturn, 1) := by decide +kernel
def y_SL_canEncode : ab_Y := (⟨"java/lang/StringLatin1", "canEncode", "(I)Z"⟩, prog_26_method_4_code, 1, (some FieldType.boolean), [])
theorem d_SL_canEncode_0 : decode y_SL_canEncode.2.1 0 = .ok (.iload_n 0, 1) := by decide +kernel
theorem d_SL_canEncode_1 : decode y_SL_canEncode.2.1 1 = .ok (.ifCond .lt 14, 3) := by decide +kernel
theorem d_SL_canEncode_4 : decode y_SL_canEncode.2.1 4 = .ok (.iload_n 0, 1) := by decide +kernel
theorem d_SL_canEncode_5 : decode y_SL_canEncode.2.1 5 = .ok (.sipush 255, 3) := by decide +kernel
theorem d_SL_canEncode_8 : decode y_SL_canEncode.2.1 8 = .ok (.if_icmp .gt 7, 3) := by decide +kernel
theorem d_SL_canEncode_11 : decode y_SL_canEncode.2.1 11 = .ok (.iconst 1, 1) := by decide +kernel
theorem d_SL_canEncode_12 : decode y_SL_canEncode.2.1 12 = .ok (.goto 4, 3) := by decide +kernel
theorem d_SL_canEncode_15 : decode y_SL_canEncode.2.1 15 = .ok (.iconst 0, 1) := by decide +kernel
theorem d_SL_canEncode_16 : decode y_SL_canEncode.2.1 16 = .ok (.ireturn, 1) := by decide +kernel
def y_SL_indexOfChar : ab_Y := (⟨"java/lang/StringLatin1", "indexOfChar", "([BIII)I"⟩, prog_26_method_23_code, 6, (some FieldType.int), [])
theorem d_SL_indexOfChar_0 : decode y_SL_indexOfChar.2.1 0 = .ok (.iload_n 1, 1) := by decide +kernel
theorem d_SL_indexOfChar_1 : decode y_SL_indexOfChar.2.1 1 = .ok (.i2b, 1) := by decide +kernel
theorem d_SL_indexOfChar_2 : decode y_SL_indexOfChar.2.1 2 = .ok (.istore 4, 2) := by decide +kernel
theorem d_SL_indexOfChar_4 : decode y_SL_indexOfChar.2.1 4 = .ok (.iload_n 2, 1) := by decide +kernel
theorem d_SL_indexOfChar_5 : decode y_SL_indexOfChar.2.1 5 = .ok (.istore 5, 2) := by decide +kernel
theorem d_SL_indexOfChar_7 : decode y_SL_indexOfChar.2.1 7 = .ok (.iload 5, 2) := by decide +kernel
theorem d_SL_indexOfChar_9 : decode y_SL_indexOfChar.2.1 9 = .ok (.iload_n 3, 1) := by decide +kernel
theorem d_SL_indexOfChar_10 : decode y_SL_indexOfChar.2.1 10 = .ok (.if_icmp .ge 21, 3) := by decide +kernel
theorem d_SL_indexOfChar_13 : decode y_SL_indexOfChar.2.1 13 = .ok (.aload_n 0, 1) := by decide +kernel
theorem d_SL_indexOfChar_14 : decode y_SL_indexOfChar.2.1 14 = .ok (.iload 5, 2) := by decide +kernel
theorem d_SL_indexOfChar_16 : decode y_SL_indexOfChar.2.1 16 = .ok (.baload, 1) := by decide +kernel
theorem d_SL_indexOfChar_17 : decode y_SL_indexOfChar.2.1 17 = .ok (.iload 4, 2) := by decide +kernel
theorem d_SL_indexOfChar_19 : decode y_SL_indexOfChar.2.1 19 = .ok (.if_icmp .ne 6, 3) := by decide +kernel
theorem d_SL_indexOfChar_22 : decode y_SL_indexOfChar.2.1 22 = .ok (.iload 5, 2) := by decide +kernel
theorem d_SL_indexOfChar_24 : decode y_SL_indexOfChar.2.1 24 = .ok (.ireturn, 1) := by decide +kernel
theorem d_SL_indexOfChar_25 : decode y_SL_indexOfChar.2.1 25 = .ok (.iinc 5 1, 3) := by decide +kernel
theorem d_SL_indexOfChar_28 : decode y_SL_indexOfChar.2.1 28 = .ok (.goto (-21), 3) := by decide +kernel
theorem d_SL_indexOfChar_31 : decode y_SL_indexOfChar.2.1 31 = .ok (.iconst (-1), 1) := by decide +kernel
theorem d_SL_indexOfChar_32 : decode y_SL_indexOfChar.2.1 32 = .ok (.ireturn, 1) := by decide +kernel
theorem s_Str_indexOf : ab_Stat y_Str_indexOf 1 := ⟨(k4 37 rfl rfl), (k1 3 rfl rfl), ⟨by decide, by decide⟩, by decide +kernel⟩
theorem i_Str_indexOf : Cond.instanceMethod y_Str_indexOf.1 ∈ ab_T := (k4 35 rfl rfl)
theorem v_Str_indexOf : Cond.selects "java/lang/String" y_Str_indexOf.1 y_Str_indexOf.1 ∈ ab_T := (k4 36 rfl rfl)
theorem s_Str_indexOf2 : ab_Stat y_Str_indexOf2 2 := ⟨(k4 41 rfl rfl), (k1 3 rfl rfl), ⟨by decide, by decide⟩, by decide +kernel⟩
theorem i_Str_indexOf2 : Cond.instanceMethod y_Str_indexOf2.1 ∈ ab_T := (k4 39 rfl rfl)
theorem v_Str_indexOf2 : Cond.selects "java/lang/String" y_Str_indexOf2.1 y_Str_indexOf2.1 ∈ ab_T := (k4 40 rfl rfl)
theorem s_SL_indexOf : ab_Stat y_SL_indexOf 4 := ⟨(k4 45 rfl rfl), (k1 4 rfl rfl), ⟨by decide, by decide⟩, by decide +kernel⟩
theorem t_SL_indexOf : Cond.static y_SL_indexOf.1 ∈ ab_T := (k4 44 rfl rfl)
theorem s_SL_canEncode : ab_Stat y_SL_canEncode 1 := ⟨(k4 48 rfl rfl), (k1 4 rfl rfl), ⟨by decide, by decide⟩, by decide +kernel⟩
theorem t_SL_canEncode : Cond.static y_SL_canEncode.1 ∈ ab_T := (k4 47 rfl rfl)
theorem s_SL_indexOfChar : ab_Stat y_SL_indexOfChar 4 := ⟨(k4 53 rfl rfl), (k1 4 rfl rfl), ⟨by decide, by decide⟩, by decide +kernel⟩
theorem t_SL_indexOfChar : Cond.static y_SL_indexOfChar.1 ∈ ab_T := (k4 52 rfl rfl)
set_option maxRecDepth 20000 in
set_option maxHeartbeats 2000000 in
theorem c_Str_coder_2 {h : List ab_E}     : ab_M y_Str_coder { frames := 0, cells := 0, slots := 0, locals := 0 } [.float 2] h (ab_A (some (.int (0))) (fun h1 => h = h1)) := by
  refine ab_of2 (lv := [some (.float 2)]) 0 rfl (by decide +kernel) (Nat.le_of_ble_eq_true rfl) ?_
  refine ab_getsC d_Str_coder_0 (k1 54 rfl rfl) ?_
  refine ab_if_eq (tgt := 13) d_Str_coder_3 (by decide) (fun q1 => ?_) (fun q1 => ?_)
  · exact absurd q1 (by decide)
  · refine ab_aload_n d_Str_coder_6 rfl rfl rfl ?_
    refine ab_getKc d_Str_coder_7 (by decide) (k4 228 rfl rfl) ?_
    refine ab_goto (tgt := 14) d_Str_coder_10 (by decide) ?_
    exact ab_zret d_Str_coder_14 rfl rfl (Nat.le_refl _) (Nat.le_refl _) ⟨rfl, rfl⟩
set_option maxRecDepth 20000 in
set_option maxHeartbeats 2000000 in
theorem c_Str_isLatin1_2 {h : List ab_E}     : ab_M y_Str_isLatin1 { frames := 0, cells := 0, slots := 0, locals := 0 } [.float 2] h (ab_A (some (.int (1))) (fun h1 => h = h1)) := by
  refine ab_of2 (lv := [some (.float 2)]) 0 rfl (by decide +kernel) (Nat.le_of_ble_eq_true rfl) ?_
  refine ab_getsC d_Str_isLatin1_0 (k1 54 rfl rfl) ?_
  refine ab_if_eq (tgt := 17) d_Str_isLatin1_3 (by decide) (fun q1 => ?_) (fun q1 => ?_)
  · exact absurd q1 (by decide)
  · refine ab_aload_n d_Str_isLatin1_6 rfl rfl rfl ?_
    refine ab_getKc d_Str_isLatin1_7 (by decide) (k4 228 rfl rfl) ?_
    refine ab_if_ne (tgt := 17) d_Str_isLatin1_10 (by decide) (fun q2 => ?_) (fun q2 => ?_)
    · exact absurd rfl q2
    · refine ab_iconst (v := 1) d_Str_isLatin1_13 (by decide) ?_
      refine ab_goto (tgt := 18) d_Str_isLatin1_14 (by decide) ?_
      exact ab_zret d_Str_isLatin1_18 rfl rfl (Nat.le_refl _) (Nat.le_refl _) ⟨rfl, rfl⟩
set_option maxRecDepth 20000 in
set_option maxHeartbeats 2000000 in
theorem c_Str_length_2 {h : List ab_E}     : ab_M y_Str_length { frames := 1, cells := 0, slots := 0, locals := 40 } [.float 2] h (ab_A (some (.int (16))) (fun h1 => h = h1)) := by
  refine ab_of2 (lv := [some (.float 2)]) 0 rfl (by decide +kernel) (Nat.le_of_ble_eq_true rfl) ?_
  refine ab_aload_n d_Str_length_0 rfl rfl rfl ?_
  refine ab_getKv (k1 := 102) d_Str_length_1 (by decide) (by decide) (k4 227 rfl rfl) ?_
  refine ab_alenK (k0 := 2) (v := 16) d_Str_length_4 (by decide) (by decide) (by decide) ?_
  refine ab_aload_n d_Str_length_5 rfl rfl rfl ?_
  refine ab_callVK_a (k0 := 2) (As := []) (rest := [.int 16]) d_Str_length_6 (by decide) (c_Str_coder_2) (ab_mkC s_Str_coder (Nat.le_of_ble_eq_true rfl) (Nat.le_of_ble_eq_true rfl) (by decide) (by decide)) (k1 50 rfl rfl) i_Str_coder v_Str_coder rfl (Nat.le_of_ble_eq_true rfl) (fun h2 q1 => ?_)
  subst q1
  refine ab_ishr d_Str_length_9 ?_
  exact ab_iret d_Str_length_10 rfl (Nat.le_refl _) (Nat.le_refl _) ⟨by decide, rfl⟩
def sp_SL_canEncode  (c : Int32) : Int32 := if c < (0 : Int32) then (0) else if (255 : Int32) < c then (0) else (1)
set_option maxRecDepth 20000 in
set_option maxHeartbeats 2000000 in
theorem c_SL_canEncode {h : List ab_E}  {c : Int32}   : ab_M y_SL_canEncode { frames := 0, cells := 0, slots := 0, locals := 0 } [.int c] h (ab_A (some (.int (sp_SL_canEncode  c))) (fun h1 => h = h1)) := by
  refine ab_of2 (lv := [some (.int c)]) 0 rfl (by decide +kernel) (Nat.le_of_ble_eq_true rfl) ?_
  refine ab_iload_n d_SL_canEncode_0 rfl rfl ?_
  refine ab_if_lt (tgt := 15) d_SL_canEncode_1 (by decide) (fun q1 => ?_) (fun q1 => ?_)
  · refine ab_iconst (v := 0) d_SL_canEncode_15 (by decide) ?_
    exact ab_zret d_SL_canEncode_16 rfl rfl (Nat.le_refl _) (Nat.le_refl _) (by unfold sp_SL_canEncode; rw [if_pos q1]; exact ⟨rfl, rfl⟩)
  · refine ab_iload_n d_SL_canEncode_4 rfl rfl ?_
    refine ab_sipush (v := 255) d_SL_canEncode_5 (by decide) ?_
    refine ab_icmp_gt (tgt := 15) d_SL_canEncode_8 (by decide) (fun q2 => ?_) (fun q2 => ?_)
    · refine ab_iconst (v := 0) d_SL_canEncode_15 (by decide) ?_
      exact ab_zret d_SL_canEncode_16 rfl rfl (Nat.le_refl _) (Nat.le_refl _) (by unfold sp_SL_canEncode; rw [if_neg q1]; rw [if_pos q2]; exact ⟨rfl, rfl⟩)
    · refine ab_iconst (v := 1) d_SL_canEncode_11 (by decide) ?_
      refine ab_goto (tgt := 16) d_SL_canEncode_12 (by decide) ?_
      exact ab_zret d_SL_canEncode_16 rfl rfl (Nat.le_refl _) (Nat.le_refl _) (by unfold sp_SL_canEncode; rw [if_neg q1]; rw [if_neg q2]; exact ⟨rfl, rfl⟩)
def lx_ix (c : Int32) : Int32 := if ¬ (123 : Int32) = ((c : Int32).toInt8.toInt32) then if ¬ (125 : Int32) = ((c : Int32).toInt8.toInt32) then if ¬ (40 : Int32) = ((c : Int32).toInt8.toInt32) then if ¬ (41 : Int32) = ((c : Int32).toInt8.toInt32) then if ¬ (44 : Int32) = ((c : Int32).toInt8.toInt32) then if ¬ (59 : Int32) = ((c : Int32).toInt8.toInt32) then if ¬ (46 : Int32) = ((c : Int32).toInt8.toInt32) then if ¬ (61 : Int32) = ((c : Int32).toInt8.toInt32) then if ¬ (43 : Int32) = ((c : Int32).toInt8.toInt32) then if ¬ (45 : Int32) = ((c : Int32).toInt8.toInt32) then if ¬ (42 : Int32) = ((c : Int32).toInt8.toInt32) then if ¬ (47 : Int32) = ((c : Int32).toInt8.toInt32) then if ¬ (37 : Int32) = ((c : Int32).toInt8.toInt32) then if ¬ (60 : Int32) = ((c : Int32).toInt8.toInt32) then if ¬ (62 : Int32) = ((c : Int32).toInt8.toInt32) then if ¬ (33 : Int32) = ((c : Int32).toInt8.toInt32) then ((-1)) else (15) else (14) else (13) else (12) else (11) else (10) else (9) else (8) else (7) else (6) else (5) else (4) else (3) else (2) else (1) else (0)
set_option maxRecDepth 20000 in
set_option maxHeartbeats 2000000 in
theorem c_SL_indexOfChar_2 {h : List ab_E}  {c : Int32}   : ab_M y_SL_indexOfChar { frames := 0, cells := 0, slots := 0, locals := 0 } [.float 102, .int c, .int 0, .int 16] h (ab_A (some (.int (lx_ix c))) (fun h1 => h = h1)) := by
  refine ab_of2 (lv := [some (.float 102), some (.int c), some (.int 0), some (.int 16), none, none]) 2 rfl (by decide +kernel) (Nat.le_of_ble_eq_true rfl) ?_
  refine ab_iload_n d_SL_indexOfChar_0 rfl rfl ?_
  refine ab_i2b d_SL_indexOfChar_1 ?_
  refine ab_topi (fun x1 ex1 => ?_)
  refine ab_istore (lv' := [some (.float 102), some (.int c), some (.int 0), some (.int 16), some (.int x1), none]) d_SL_indexOfChar_2 (by decide) rfl ?_
  refine ab_iload_n d_SL_indexOfChar_4 rfl rfl ?_
  refine ab_istore (lv' := [some (.float 102), some (.int c), some (.int 0), some (.int 16), some (.int x1), some (.int 0)]) d_SL_indexOfChar_5 (by decide) rfl ?_
  refine ab_iload d_SL_indexOfChar_7 rfl ?_
  refine ab_iload_n d_SL_indexOfChar_9 rfl rfl ?_
  refine ab_icmp_ge (tgt := 31) d_SL_indexOfChar_10 (by decide) (fun q2 => by exact absurd q2 (by decide)) (fun q2 => ?_)
  refine ab_aload_n d_SL_indexOfChar_13 rfl rfl rfl ?_
  refine ab_iload d_SL_indexOfChar_14 rfl ?_
  refine ab_baldK (k0 := 2) d_SL_indexOfChar_16 (by decide) (by decide) (in_of (by decide) (by decide) (by decide)) rfl ?_
  refine ab_topi (fun x3 ex3 => ?_)
  obtain rfl : x3 = 123 := ex3.trans (by decide)
  clear ex3
  refine ab_iload d_SL_indexOfChar_17 rfl ?_
  refine ab_icmp_ne (tgt := 25) d_SL_indexOfChar_19 (by decide) (fun q4 => ?_) (fun q4 => ?_)
  · refine ab_iinc (v := 1) (lv' := [some (.float 102), some (.int c), some (.int 0), some (.int 16), some (.int x1), some (.int 1)]) d_SL_indexOfChar_25 rfl (by decide) (by decide) rfl ?_
    refine ab_goto (tgt := 7) d_SL_indexOfChar_28 (by decide) ?_
    refine ab_iload d_SL_indexOfChar_7 rfl ?_
    refine ab_iload_n d_SL_indexOfChar_9 rfl rfl ?_
    refine ab_icmp_ge (tgt := 31) d_SL_indexOfChar_10 (by decide) (fun q5 => by exact absurd q5 (by decide)) (fun q5 => ?_)
    refine ab_aload_n d_SL_indexOfChar_13 rfl rfl rfl ?_
    refine ab_iload d_SL_indexOfChar_14 rfl ?_
    refine ab_baldK (k0 := 2) d_SL_indexOfChar_16 (by decide) (by decide) (in_of (by decide) (by decide) (by decide)) rfl ?_
    refine ab_topi (fun x6 ex6 => ?_)
    obtain rfl : x6 = 125 := ex6.trans (by decide)
    clear ex6
    refine ab_iload d_SL_indexOfChar_17 rfl ?_
    refine ab_icmp_ne (tgt := 25) d_SL_indexOfChar_19 (by decide) (fun q7 => ?_) (fun q7 => ?_)
    · refine ab_iinc (v := 2) (lv' := [some (.float 102), some (.int c), some (.int 0), some (.int 16), some (.int x1), some (.int 2)]) d_SL_indexOfChar_25 rfl (by decide) (by decide) rfl ?_
      refine ab_goto (tgt := 7) d_SL_indexOfChar_28 (by decide) ?_
      refine ab_iload d_SL_indexOfChar_7 rfl ?_
      refine ab_iload_n d_SL_indexOfChar_9 rfl rfl ?_
      refine ab_icmp_ge (tgt := 31) d_SL_indexOfChar_10 (by decide) (fun q8 => by exact absurd q8 (by decide)) (fun q8 => ?_)
      refine ab_aload_n d_SL_indexOfChar_13 rfl rfl rfl ?_
      refine ab_iload d_SL_indexOfChar_14 rfl ?_
      refine ab_baldK (k0 := 2) d_SL_indexOfChar_16 (by decide) (by decide) (in_of (by decide) (by decide) (by decide)) rfl ?_
      refine ab_topi (fun x9 ex9 => ?_)
      obtain rfl : x9 = 40 := ex9.trans (by decide)
      clear ex9
      refine ab_iload d_SL_indexOfChar_17 rfl ?_
      refine ab_icmp_ne (tgt := 25) d_SL_indexOfChar_19 (by decide) (fun q10 => ?_) (fun q10 => ?_)
      · refine ab_iinc (v := 3) (lv' := [some (.float 102), some (.int c), some (.int 0), some (.int 16), some (.int x1), some (.int 3)]) d_SL_indexOfChar_25 rfl (by decide) (by decide) rfl ?_
        refine ab_goto (tgt := 7) d_SL_indexOfChar_28 (by decide) ?_
        refine ab_iload d_SL_indexOfChar_7 rfl ?_
        refine ab_iload_n d_SL_indexOfChar_9 rfl rfl ?_
        refine ab_icmp_ge (tgt := 31) d_SL_indexOfChar_10 (by decide) (fun q11 => by exact absurd q11 (by decide)) (fun q11 => ?_)
        refine ab_aload_n d_SL_indexOfChar_13 rfl rfl rfl ?_
        refine ab_iload d_SL_indexOfChar_14 rfl ?_
        refine ab_baldK (k0 := 2) d_SL_indexOfChar_16 (by decide) (by decide) (in_of (by decide) (by decide) (by decide)) rfl ?_
        refine ab_topi (fun x12 ex12 => ?_)
        obtain rfl : x12 = 41 := ex12.trans (by decide)
        clear ex12
        refine ab_iload d_SL_indexOfChar_17 rfl ?_
        refine ab_icmp_ne (tgt := 25) d_SL_indexOfChar_19 (by decide) (fun q13 => ?_) (fun q13 => ?_)
        · refine ab_iinc (v := 4) (lv' := [some (.float 102), some (.int c), some (.int 0), some (.int 16), some (.int x1), some (.int 4)]) d_SL_indexOfChar_25 rfl (by decide) (by decide) rfl ?_
          refine ab_goto (tgt := 7) d_SL_indexOfChar_28 (by decide) ?_
          refine ab_iload d_SL_indexOfChar_7 rfl ?_
          refine ab_iload_n d_SL_indexOfChar_9 rfl rfl ?_
          refine ab_icmp_ge (tgt := 31) d_SL_indexOfChar_10 (by decide) (fun q14 => by exact absurd q14 (by decide)) (fun q14 => ?_)
          refine ab_aload_n d_SL_indexOfChar_13 rfl rfl rfl ?_
          refine ab_iload d_SL_indexOfChar_14 rfl ?_
          refine ab_baldK (k0 := 2) d_SL_indexOfChar_16 (by decide) (by decide) (in_of (by decide) (by decide) (by decide)) rfl ?_
          refine ab_topi (fun x15 ex15 => ?_)
          obtain rfl : x15 = 44 := ex15.trans (by decide)
          clear ex15
          refine ab_iload d_SL_indexOfChar_17 rfl ?_
          refine ab_icmp_ne (tgt := 25) d_SL_indexOfChar_19 (by decide) (fun q16 => ?_) (fun q16 => ?_)
          · refine ab_iinc (v := 5) (lv' := [some (.float 102), some (.int c), some (.int 0), some (.int 16), some (.int x1), some (.int 5)]) d_SL_indexOfChar_25 rfl (by decide) (by decide) rfl ?_
            refine ab_goto (tgt := 7) d_SL_indexOfChar_28 (by decide) ?_
            refine ab_iload d_SL_indexOfChar_7 rfl ?_
            refine ab_iload_n d_SL_indexOfChar_9 rfl rfl ?_
            refine ab_icmp_ge (tgt := 31) d_SL_indexOfChar_10 (by decide) (fun q17 => by exact absurd q17 (by decide)) (fun q17 => ?_)
            refine ab_aload_n d_SL_indexOfChar_13 rfl rfl rfl ?_
            refine ab_iload d_SL_indexOfChar_14 rfl ?_
            refine ab_baldK (k0 := 2) d_SL_indexOfChar_16 (by decide) (by decide) (in_of (by decide) (by decide) (by decide)) rfl ?_
            refine ab_topi (fun x18 ex18 => ?_)
            obtain rfl : x18 = 59 := ex18.trans (by decide)
            clear ex18
            refine ab_iload d_SL_indexOfChar_17 rfl ?_
            refine ab_icmp_ne (tgt := 25) d_SL_indexOfChar_19 (by decide) (fun q19 => ?_) (fun q19 => ?_)
            · refine ab_iinc (v := 6) (lv' := [some (.float 102), some (.int c), some (.int 0), some (.int 16), some (.int x1), some (.int 6)]) d_SL_indexOfChar_25 rfl (by decide) (by decide) rfl ?_
              refine ab_goto (tgt := 7) d_SL_indexOfChar_28 (by decide) ?_
              refine ab_iload d_SL_indexOfChar_7 rfl ?_
              refine ab_iload_n d_SL_indexOfChar_9 rfl rfl ?_
              refine ab_icmp_ge (tgt := 31) d_SL_indexOfChar_10 (by decide) (fun q20 => by exact absurd q20 (by decide)) (fun q20 => ?_)
              refine ab_aload_n d_SL_indexOfChar_13 rfl rfl rfl ?_
              refine ab_iload d_SL_indexOfChar_14 rfl ?_
              refine ab_baldK (k0 := 2) d_SL_indexOfChar_16 (by decide) (by decide) (in_of (by decide) (by decide) (by decide)) rfl ?_
              refine ab_topi (fun x21 ex21 => ?_)
              obtain rfl : x21 = 46 := ex21.trans (by decide)
              clear ex21
              refine ab_iload d_SL_indexOfChar_17 rfl ?_
              refine ab_icmp_ne (tgt := 25) d_SL_indexOfChar_19 (by decide) (fun q22 => ?_) (fun q22 => ?_)
              · refine ab_iinc (v := 7) (lv' := [some (.float 102), some (.int c), some (.int 0), some (.int 16), some (.int x1), some (.int 7)]) d_SL_indexOfChar_25 rfl (by decide) (by decide) rfl ?_
                refine ab_goto (tgt := 7) d_SL_indexOfChar_28 (by decide) ?_
                refine ab_iload d_SL_indexOfChar_7 rfl ?_
                refine ab_iload_n d_SL_indexOfChar_9 rfl rfl ?_
                refine ab_icmp_ge (tgt := 31) d_SL_indexOfChar_10 (by decide) (fun q23 => by exact absurd q23 (by decide)) (fun q23 => ?_)
                refine ab_aload_n d_SL_indexOfChar_13 rfl rfl rfl ?_
                refine ab_iload d_SL_indexOfChar_14 rfl ?_
                refine ab_baldK (k0 := 2) d_SL_indexOfChar_16 (by decide) (by decide) (in_of (by decide) (by decide) (by decide)) rfl ?_
                refine ab_topi (fun x24 ex24 => ?_)
                obtain rfl : x24 = 61 := ex24.trans (by decide)
                clear ex24
                refine ab_iload d_SL_indexOfChar_17 rfl ?_
                refine ab_icmp_ne (tgt := 25) d_SL_indexOfChar_19 (by decide) (fun q25 => ?_) (fun q25 => ?_)
                · refine ab_iinc (v := 8) (lv' := [some (.float 102), some (.int c), some (.int 0), some (.int 16), some (.int x1), some (.int 8)]) d_SL_indexOfChar_25 rfl (by decide) (by decide) rfl ?_
                  refine ab_goto (tgt := 7) d_SL_indexOfChar_28 (by decide) ?_
                  refine ab_iload d_SL_indexOfChar_7 rfl ?_
                  refine ab_iload_n d_SL_indexOfChar_9 rfl rfl ?_
                  refine ab_icmp_ge (tgt := 31) d_SL_indexOfChar_10 (by decide) (fun q26 => by exact absurd q26 (by decide)) (fun q26 => ?_)
                  refine ab_aload_n d_SL_indexOfChar_13 rfl rfl rfl ?_
                  refine ab_iload d_SL_indexOfChar_14 rfl ?_
                  refine ab_baldK (k0 := 2) d_SL_indexOfChar_16 (by decide) (by decide) (in_of (by decide) (by decide) (by decide)) rfl ?_
                  refine ab_topi (fun x27 ex27 => ?_)
                  obtain rfl : x27 = 43 := ex27.trans (by decide)
                  clear ex27
                  refine ab_iload d_SL_indexOfChar_17 rfl ?_
                  refine ab_icmp_ne (tgt := 25) d_SL_indexOfChar_19 (by decide) (fun q28 => ?_) (fun q28 => ?_)
                  · refine ab_iinc (v := 9) (lv' := [some (.float 102), some (.int c), some (.int 0), some (.int 16), some (.int x1), some (.int 9)]) d_SL_indexOfChar_25 rfl (by decide) (by decide) rfl ?_
                    refine ab_goto (tgt := 7) d_SL_indexOfChar_28 (by decide) ?_
                    refine ab_iload d_SL_indexOfChar_7 rfl ?_
                    refine ab_iload_n d_SL_indexOfChar_9 rfl rfl ?_
                    refine ab_icmp_ge (tgt := 31) d_SL_indexOfChar_10 (by decide) (fun q29 => by exact absurd q29 (by decide)) (fun q29 => ?_)
                    refine ab_aload_n d_SL_indexOfChar_13 rfl rfl rfl ?_
                    refine ab_iload d_SL_indexOfChar_14 rfl ?_
                    refine ab_baldK (k0 := 2) d_SL_indexOfChar_16 (by decide) (by decide) (in_of (by decide) (by decide) (by decide)) rfl ?_
                    refine ab_topi (fun x30 ex30 => ?_)
                    obtain rfl : x30 = 45 := ex30.trans (by decide)
                    clear ex30
                    refine ab_iload d_SL_indexOfChar_17 rfl ?_
                    refine ab_icmp_ne (tgt := 25) d_SL_indexOfChar_19 (by decide) (fun q31 => ?_) (fun q31 => ?_)
                    · refine ab_iinc (v := 10) (lv' := [some (.float 102), some (.int c), some (.int 0), some (.int 16), some (.int x1), some (.int 10)]) d_SL_indexOfChar_25 rfl (by decide) (by decide) rfl ?_
                      refine ab_goto (tgt := 7) d_SL_indexOfChar_28 (by decide) ?_
                      refine ab_iload d_SL_indexOfChar_7 rfl ?_
                      refine ab_iload_n d_SL_indexOfChar_9 rfl rfl ?_
                      refine ab_icmp_ge (tgt := 31) d_SL_indexOfChar_10 (by decide) (fun q32 => by exact absurd q32 (by decide)) (fun q32 => ?_)
                      refine ab_aload_n d_SL_indexOfChar_13 rfl rfl rfl ?_
                      refine ab_iload d_SL_indexOfChar_14 rfl ?_
                      refine ab_baldK (k0 := 2) d_SL_indexOfChar_16 (by decide) (by decide) (in_of (by decide) (by decide) (by decide)) rfl ?_
                      refine ab_topi (fun x33 ex33 => ?_)
                      obtain rfl : x33 = 42 := ex33.trans (by decide)
                      clear ex33
                      refine ab_iload d_SL_indexOfChar_17 rfl ?_
                      refine ab_icmp_ne (tgt := 25) d_SL_indexOfChar_19 (by decide) (fun q34 => ?_) (fun q34 => ?_)
                      · refine ab_iinc (v := 11) (lv' := [some (.float 102), some (.int c), some (.int 0), some (.int 16), some (.int x1), some (.int 11)]) d_SL_indexOfChar_25 rfl (by decide) (by decide) rfl ?_
                        refine ab_goto (tgt := 7) d_SL_indexOfChar_28 (by decide) ?_
                        refine ab_iload d_SL_indexOfChar_7 rfl ?_
                        refine ab_iload_n d_SL_indexOfChar_9 rfl rfl ?_
                        refine ab_icmp_ge (tgt := 31) d_SL_indexOfChar_10 (by decide) (fun q35 => by exact absurd q35 (by decide)) (fun q35 => ?_)
                        refine ab_aload_n d_SL_indexOfChar_13 rfl rfl rfl ?_
                        refine ab_iload d_SL_indexOfChar_14 rfl ?_
                        refine ab_baldK (k0 := 2) d_SL_indexOfChar_16 (by decide) (by decide) (in_of (by decide) (by decide) (by decide)) rfl ?_
                        refine ab_topi (fun x36 ex36 => ?_)
                        obtain rfl : x36 = 47 := ex36.trans (by decide)
                        clear ex36
                        refine ab_iload d_SL_indexOfChar_17 rfl ?_
                        refine ab_icmp_ne (tgt := 25) d_SL_indexOfChar_19 (by decide) (fun q37 => ?_) (fun q37 => ?_)
                        · refine ab_iinc (v := 12) (lv' := [some (.float 102), some (.int c), some (.int 0), some (.int 16), some (.int x1), some (.int 12)]) d_SL_indexOfChar_25 rfl (by decide) (by decide) rfl ?_
                          refine ab_goto (tgt := 7) d_SL_indexOfChar_28 (by decide) ?_
                          refine ab_iload d_SL_indexOfChar_7 rfl ?_
                          refine ab_iload_n d_SL_indexOfChar_9 rfl rfl ?_
                          refine ab_icmp_ge (tgt := 31) d_SL_indexOfChar_10 (by decide) (fun q38 => by exact absurd q38 (by decide)) (fun q38 => ?_)
                          refine ab_aload_n d_SL_indexOfChar_13 rfl rfl rfl ?_
                          refine ab_iload d_SL_indexOfChar_14 rfl ?_
                          refine ab_baldK (k0 := 2) d_SL_indexOfChar_16 (by decide) (by decide) (in_of (by decide) (by decide) (by decide)) rfl ?_
                          refine ab_topi (fun x39 ex39 => ?_)
                          obtain rfl : x39 = 37 := ex39.trans (by decide)
                          clear ex39
                          refine ab_iload d_SL_indexOfChar_17 rfl ?_
                          refine ab_icmp_ne (tgt := 25) d_SL_indexOfChar_19 (by decide) (fun q40 => ?_) (fun q40 => ?_)
                          · refine ab_iinc (v := 13) (lv' := [some (.float 102), some (.int c), some (.int 0), some (.int 16), some (.int x1), some (.int 13)]) d_SL_indexOfChar_25 rfl (by decide) (by decide) rfl ?_
                            refine ab_goto (tgt := 7) d_SL_indexOfChar_28 (by decide) ?_
                            refine ab_iload d_SL_indexOfChar_7 rfl ?_
                            refine ab_iload_n d_SL_indexOfChar_9 rfl rfl ?_
                            refine ab_icmp_ge (tgt := 31) d_SL_indexOfChar_10 (by decide) (fun q41 => by exact absurd q41 (by decide)) (fun q41 => ?_)
                            refine ab_aload_n d_SL_indexOfChar_13 rfl rfl rfl ?_
                            refine ab_iload d_SL_indexOfChar_14 rfl ?_
                            refine ab_baldK (k0 := 2) d_SL_indexOfChar_16 (by decide) (by decide) (in_of (by decide) (by decide) (by decide)) rfl ?_
                            refine ab_topi (fun x42 ex42 => ?_)
                            obtain rfl : x42 = 60 := ex42.trans (by decide)
                            clear ex42
                            refine ab_iload d_SL_indexOfChar_17 rfl ?_
                            refine ab_icmp_ne (tgt := 25) d_SL_indexOfChar_19 (by decide) (fun q43 => ?_) (fun q43 => ?_)
                            · refine ab_iinc (v := 14) (lv' := [some (.float 102), some (.int c), some (.int 0), some (.int 16), some (.int x1), some (.int 14)]) d_SL_indexOfChar_25 rfl (by decide) (by decide) rfl ?_
                              refine ab_goto (tgt := 7) d_SL_indexOfChar_28 (by decide) ?_
                              refine ab_iload d_SL_indexOfChar_7 rfl ?_
                              refine ab_iload_n d_SL_indexOfChar_9 rfl rfl ?_
                              refine ab_icmp_ge (tgt := 31) d_SL_indexOfChar_10 (by decide) (fun q44 => by exact absurd q44 (by decide)) (fun q44 => ?_)
                              refine ab_aload_n d_SL_indexOfChar_13 rfl rfl rfl ?_
                              refine ab_iload d_SL_indexOfChar_14 rfl ?_
                              refine ab_baldK (k0 := 2) d_SL_indexOfChar_16 (by decide) (by decide) (in_of (by decide) (by decide) (by decide)) rfl ?_
                              refine ab_topi (fun x45 ex45 => ?_)
                              obtain rfl : x45 = 62 := ex45.trans (by decide)
                              clear ex45
                              refine ab_iload d_SL_indexOfChar_17 rfl ?_
                              refine ab_icmp_ne (tgt := 25) d_SL_indexOfChar_19 (by decide) (fun q46 => ?_) (fun q46 => ?_)
                              · refine ab_iinc (v := 15) (lv' := [some (.float 102), some (.int c), some (.int 0), some (.int 16), some (.int x1), some (.int 15)]) d_SL_indexOfChar_25 rfl (by decide) (by decide) rfl ?_
                                refine ab_goto (tgt := 7) d_SL_indexOfChar_28 (by decide) ?_
                                refine ab_iload d_SL_indexOfChar_7 rfl ?_
                                refine ab_iload_n d_SL_indexOfChar_9 rfl rfl ?_
                                refine ab_icmp_ge (tgt := 31) d_SL_indexOfChar_10 (by decide) (fun q47 => by exact absurd q47 (by decide)) (fun q47 => ?_)
                                refine ab_aload_n d_SL_indexOfChar_13 rfl rfl rfl ?_
                                refine ab_iload d_SL_indexOfChar_14 rfl ?_
                                refine ab_baldK (k0 := 2) d_SL_indexOfChar_16 (by decide) (by decide) (in_of (by decide) (by decide) (by decide)) rfl ?_
                                refine ab_topi (fun x48 ex48 => ?_)
                                obtain rfl : x48 = 33 := ex48.trans (by decide)
                                clear ex48
                                refine ab_iload d_SL_indexOfChar_17 rfl ?_
                                refine ab_icmp_ne (tgt := 25) d_SL_indexOfChar_19 (by decide) (fun q49 => ?_) (fun q49 => ?_)
                                · refine ab_iinc (v := 16) (lv' := [some (.float 102), some (.int c), some (.int 0), some (.int 16), some (.int x1), some (.int 16)]) d_SL_indexOfChar_25 rfl (by decide) (by decide) rfl ?_
                                  refine ab_goto (tgt := 7) d_SL_indexOfChar_28 (by decide) ?_
                                  refine ab_iload d_SL_indexOfChar_7 rfl ?_
                                  refine ab_iload_n d_SL_indexOfChar_9 rfl rfl ?_
                                  refine ab_icmp_ge (tgt := 31) d_SL_indexOfChar_10 (by decide) (fun q50 => ?_) (fun q50 => by exact absurd (by decide) q50)
                                  refine ab_iconst (v := (-1)) d_SL_indexOfChar_31 (by decide) ?_
                                  exact ab_iret d_SL_indexOfChar_32 rfl (Nat.le_refl _) (Nat.le_refl _) (by subst ex1; unfold lx_ix; rw [if_pos q4]; rw [if_pos q7]; rw [if_pos q10]; rw [if_pos q13]; rw [if_pos q16]; rw [if_pos q19]; rw [if_pos q22]; rw [if_pos q25]; rw [if_pos q28]; rw [if_pos q31]; rw [if_pos q34]; rw [if_pos q37]; rw [if_pos q40]; rw [if_pos q43]; rw [if_pos q46]; rw [if_pos q49]; exact ⟨rfl, rfl⟩)
                                · refine ab_iload d_SL_indexOfChar_22 rfl ?_
                                  exact ab_iret d_SL_indexOfChar_24 rfl (Nat.le_refl _) (Nat.le_refl _) (by subst ex1; unfold lx_ix; rw [if_pos q4]; rw [if_pos q7]; rw [if_pos q10]; rw [if_pos q13]; rw [if_pos q16]; rw [if_pos q19]; rw [if_pos q22]; rw [if_pos q25]; rw [if_pos q28]; rw [if_pos q31]; rw [if_pos q34]; rw [if_pos q37]; rw [if_pos q40]; rw [if_pos q43]; rw [if_pos q46]; rw [if_neg (fun z => z q49)]; exact ⟨rfl, rfl⟩)
                              · refine ab_iload d_SL_indexOfChar_22 rfl ?_
                                exact ab_iret d_SL_indexOfChar_24 rfl (Nat.le_refl _) (Nat.le_refl _) (by subst ex1; unfold lx_ix; rw [if_pos q4]; rw [if_pos q7]; rw [if_pos q10]; rw [if_pos q13]; rw [if_pos q16]; rw [if_pos q19]; rw [if_pos q22]; rw [if_pos q25]; rw [if_pos q28]; rw [if_pos q31]; rw [if_pos q34]; rw [if_pos q37]; rw [if_pos q40]; rw [if_pos q43]; rw [if_neg (fun z => z q46)]; exact ⟨rfl, rfl⟩)
                            · refine ab_iload d_SL_indexOfChar_22 rfl ?_
                              exact ab_iret d_SL_indexOfChar_24 rfl (Nat.le_refl _) (Nat.le_refl _) (by subst ex1; unfold lx_ix; rw [if_pos q4]; rw [if_pos q7]; rw [if_pos q10]; rw [if_pos q13]; rw [if_pos q16]; rw [if_pos q19]; rw [if_pos q22]; rw [if_pos q25]; rw [if_pos q28]; rw [if_pos q31]; rw [if_pos q34]; rw [if_pos q37]; rw [if_pos q40]; rw [if_neg (fun z => z q43)]; exact ⟨rfl, rfl⟩)
                          · refine ab_iload d_SL_indexOfChar_22 rfl ?_
                            exact ab_iret d_SL_indexOfChar_24 rfl (Nat.le_refl _) (Nat.le_refl _) (by subst ex1; unfold lx_ix; rw [if_pos q4]; rw [if_pos q7]; rw [if_pos q10]; rw [if_pos q13]; rw [if_pos q16]; rw [if_pos q19]; rw [if_pos q22]; rw [if_pos q25]; rw [if_pos q28]; rw [if_pos q31]; rw [if_pos q34]; rw [if_pos q37]; rw [if_neg (fun z => z q40)]; exact ⟨rfl, rfl⟩)
                        · refine ab_iload d_SL_indexOfChar_22 rfl ?_
                          exact ab_iret d_SL_indexOfChar_24 rfl (Nat.le_refl _) (Nat.le_refl _) (by subst ex1; unfold lx_ix; rw [if_pos q4]; rw [if_pos q7]; rw [if_pos q10]; rw [if_pos q13]; rw [if_pos q16]; rw [if_pos q19]; rw [if_pos q22]; rw [if_pos q25]; rw [if_pos q28]; rw [if_pos q31]; rw [if_pos q34]; rw [if_neg (fun z => z q37)]; exact ⟨rfl, rfl⟩)
                      · refine ab_iload d_SL_indexOfChar_22 rfl ?_
                        exact ab_iret d_SL_indexOfChar_24 rfl (Nat.le_refl _) (Nat.le_refl _) (by subst ex1; unfold lx_ix; rw [if_pos q4]; rw [if_pos q7]; rw [if_pos q10]; rw [if_pos q13]; rw [if_pos q16]; rw [if_pos q19]; rw [if_pos q22]; rw [if_pos q25]; rw [if_pos q28]; rw [if_pos q31]; rw [if_neg (fun z => z q34)]; exact ⟨rfl, rfl⟩)
                    · refine ab_iload d_SL_indexOfChar_22 rfl ?_
                      exact ab_iret d_SL_indexOfChar_24 rfl (Nat.le_refl _) (Nat.le_refl _) (by subst ex1; unfold lx_ix; rw [if_pos q4]; rw [if_pos q7]; rw [if_pos q10]; rw [if_pos q13]; rw [if_pos q16]; rw [if_pos q19]; rw [if_pos q22]; rw [if_pos q25]; rw [if_pos q28]; rw [if_neg (fun z => z q31)]; exact ⟨rfl, rfl⟩)
                  · refine ab_iload d_SL_indexOfChar_22 rfl ?_
                    exact ab_iret d_SL_indexOfChar_24 rfl (Nat.le_refl _) (Nat.le_refl _) (by subst ex1; unfold lx_ix; rw [if_pos q4]; rw [if_pos q7]; rw [if_pos q10]; rw [if_pos q13]; rw [if_pos q16]; rw [if_pos q19]; rw [if_pos q22]; rw [if_pos q25]; rw [if_neg (fun z => z q28)]; exact ⟨rfl, rfl⟩)
                · refine ab_iload d_SL_indexOfChar_22 rfl ?_
                  exact ab_iret d_SL_indexOfChar_24 rfl (Nat.le_refl _) (Nat.le_refl _) (by subst ex1; unfold lx_ix; rw [if_pos q4]; rw [if_pos q7]; rw [if_pos q10]; rw [if_pos q13]; rw [if_pos q16]; rw [if_pos q19]; rw [if_pos q22]; rw [if_neg (fun z => z q25)]; exact ⟨rfl, rfl⟩)
              · refine ab_iload d_SL_indexOfChar_22 rfl ?_
                exact ab_iret d_SL_indexOfChar_24 rfl (Nat.le_refl _) (Nat.le_refl _) (by subst ex1; unfold lx_ix; rw [if_pos q4]; rw [if_pos q7]; rw [if_pos q10]; rw [if_pos q13]; rw [if_pos q16]; rw [if_pos q19]; rw [if_neg (fun z => z q22)]; exact ⟨rfl, rfl⟩)
            · refine ab_iload d_SL_indexOfChar_22 rfl ?_
              exact ab_iret d_SL_indexOfChar_24 rfl (Nat.le_refl _) (Nat.le_refl _) (by subst ex1; unfold lx_ix; rw [if_pos q4]; rw [if_pos q7]; rw [if_pos q10]; rw [if_pos q13]; rw [if_pos q16]; rw [if_neg (fun z => z q19)]; exact ⟨rfl, rfl⟩)
          · refine ab_iload d_SL_indexOfChar_22 rfl ?_
            exact ab_iret d_SL_indexOfChar_24 rfl (Nat.le_refl _) (Nat.le_refl _) (by subst ex1; unfold lx_ix; rw [if_pos q4]; rw [if_pos q7]; rw [if_pos q10]; rw [if_pos q13]; rw [if_neg (fun z => z q16)]; exact ⟨rfl, rfl⟩)
        · refine ab_iload d_SL_indexOfChar_22 rfl ?_
          exact ab_iret d_SL_indexOfChar_24 rfl (Nat.le_refl _) (Nat.le_refl _) (by subst ex1; unfold lx_ix; rw [if_pos q4]; rw [if_pos q7]; rw [if_pos q10]; rw [if_neg (fun z => z q13)]; exact ⟨rfl, rfl⟩)
      · refine ab_iload d_SL_indexOfChar_22 rfl ?_
        exact ab_iret d_SL_indexOfChar_24 rfl (Nat.le_refl _) (Nat.le_refl _) (by subst ex1; unfold lx_ix; rw [if_pos q4]; rw [if_pos q7]; rw [if_neg (fun z => z q10)]; exact ⟨rfl, rfl⟩)
    · refine ab_iload d_SL_indexOfChar_22 rfl ?_
      exact ab_iret d_SL_indexOfChar_24 rfl (Nat.le_refl _) (Nat.le_refl _) (by subst ex1; unfold lx_ix; rw [if_pos q4]; rw [if_neg (fun z => z q7)]; exact ⟨rfl, rfl⟩)
  · refine ab_iload d_SL_indexOfChar_22 rfl ?_
    exact ab_iret d_SL_indexOfChar_24 rfl (Nat.le_refl _) (Nat.le_refl _) (by subst ex1; unfold lx_ix; rw [if_neg (fun z => z q4)]; exact ⟨rfl, rfl⟩)
set_option maxRecDepth 20000 in
set_option maxHeartbeats 2000000 in
theorem c_SL_indexOf_2 {h : List ab_E}  {c : Int32}   : ab_M y_SL_indexOf { frames := 1, cells := 0, slots := 0, locals := 40 } [.float 102, .int c, .int 0, .int 16] h (ab_A (some (.int (if sp_SL_canEncode c = 0 then -1 else lx_ix c))) (fun h1 => h = h1)) := by
  refine ab_of2 (lv := [some (.float 102), some (.int c), some (.int 0), some (.int 16)]) 0 rfl (by decide +kernel) (Nat.le_of_ble_eq_true rfl) ?_
  refine ab_iload_n d_SL_indexOf_0 rfl rfl ?_
  refine ab_callS_a (As := [.int c]) (rest := []) d_SL_indexOf_1 (c_SL_canEncode) (ab_mkC s_SL_canEncode (Nat.le_of_ble_eq_true rfl) (Nat.le_of_ble_eq_true rfl) (by decide) (by decide)) (k4 46 rfl rfl) t_SL_canEncode rfl (Nat.le_of_ble_eq_true rfl) (fun h2 q1 => ?_)
  subst q1
  refine ab_if_ne (tgt := 9) d_SL_indexOf_4 (by decide) (fun q3 => ?_) (fun q3 => ?_)
  · refine ab_iload_n d_SL_indexOf_9 rfl rfl ?_
    refine ab_iconst (v := 0) d_SL_indexOf_10 (by decide) ?_
    refine ab_callS_a (As := [.int 0, .int 0]) (rest := []) d_SL_indexOf_11 (c_Math_max) (ab_mkC s_Math_max (Nat.le_of_ble_eq_true rfl) (Nat.le_of_ble_eq_true rfl) (by decide) (by decide)) (k4 49 rfl rfl) t_Math_max rfl (Nat.le_of_ble_eq_true rfl) (fun h5 q4 => ?_)
    subst q4
    refine ab_topi (fun x6 ex6 => ?_)
    obtain rfl : x6 = 0 := ex6.trans (by decide)
    clear ex6
    refine ab_istore_n (lv' := [some (.float 102), some (.int c), some (.int 0), some (.int 16)]) d_SL_indexOf_14 rfl (by decide) rfl ?_
    refine ab_iload_n d_SL_indexOf_15 rfl rfl ?_
    refine ab_aload_n d_SL_indexOf_16 rfl rfl rfl ?_
    refine ab_alenK (k0 := 2) (v := 16) d_SL_indexOf_17 (by decide) (by decide) (by decide) ?_
    refine ab_callS_a (As := [.int 16, .int 16]) (rest := []) d_SL_indexOf_18 (c_Math_min) (ab_mkC s_Math_min (Nat.le_of_ble_eq_true rfl) (Nat.le_of_ble_eq_true rfl) (by decide) (by decide)) (k4 50 rfl rfl) t_Math_min rfl (Nat.le_of_ble_eq_true rfl) (fun h8 q7 => ?_)
    subst q7
    refine ab_topi (fun x9 ex9 => ?_)
    obtain rfl : x9 = 16 := ex9.trans (by decide)
    clear ex9
    refine ab_istore_n (lv' := [some (.float 102), some (.int c), some (.int 0), some (.int 16)]) d_SL_indexOf_21 rfl (by decide) rfl ?_
    refine ab_iload_n d_SL_indexOf_22 rfl rfl ?_
    refine ab_iload_n d_SL_indexOf_23 rfl rfl ?_
    refine ab_icmp_lt (tgt := 29) d_SL_indexOf_24 (by decide) (fun q10 => ?_) (fun q10 => by exact absurd (by decide) q10)
    refine ab_aload_n d_SL_indexOf_29 rfl rfl rfl ?_
    refine ab_iload_n d_SL_indexOf_30 rfl rfl ?_
    refine ab_iload_n d_SL_indexOf_31 rfl rfl ?_
    refine ab_iload_n d_SL_indexOf_32 rfl rfl ?_
    refine ab_callS_a (As := [.float 102, .int c, .int 0, .int 16]) (rest := []) d_SL_indexOf_33 (c_SL_indexOfChar_2) (ab_mkC s_SL_indexOfChar (Nat.le_of_ble_eq_true rfl) (Nat.le_of_ble_eq_true rfl) (by decide) (by decide)) (k4 51 rfl rfl) t_SL_indexOfChar rfl (Nat.le_of_ble_eq_true rfl) (fun h12 q11 => ?_)
    subst q11
    exact ab_iret d_SL_indexOf_36 rfl (Nat.le_refl _) (Nat.le_refl _) (by first | (rw [if_pos (by assumption)]; exact ⟨rfl, rfl⟩) | (rw [if_neg (by assumption)]; exact ⟨rfl, rfl⟩))
  · refine ab_iconst (v := (-1)) d_SL_indexOf_7 (by decide) ?_
    exact ab_iret d_SL_indexOf_8 rfl (Nat.le_refl _) (Nat.le_refl _) (by first | (rw [if_pos (by assumption)]; exact ⟨rfl, rfl⟩) | (rw [if_neg (by assumption)]; exact ⟨rfl, rfl⟩))
set_option maxRecDepth 20000 in
set_option maxHeartbeats 2000000 in
theorem c_Str_indexOf2_2 {h : List ab_E}  {c : Int32}   : ab_M y_Str_indexOf2 { frames := 2, cells := 0, slots := 0, locals := 80 } [.float 2, .int c, .int 0] h (ab_A (some (.int (if sp_SL_canEncode c = 0 then -1 else lx_ix c))) (fun h1 => h = h1)) := by
  refine ab_of2 (lv := [some (.float 2), some (.int c), some (.int 0)]) 0 rfl (by decide +kernel) (Nat.le_of_ble_eq_true rfl) ?_
  refine ab_aload_n d_Str_indexOf2_0 rfl rfl rfl ?_
  refine ab_callVK_a (k0 := 2) (As := []) (rest := []) d_Str_indexOf2_1 (by decide) (c_Str_isLatin1_2) (ab_mkC s_Str_isLatin1 (Nat.le_of_ble_eq_true rfl) (Nat.le_of_ble_eq_true rfl) (by decide) (by decide)) (k1 60 rfl rfl) i_Str_isLatin1 v_Str_isLatin1 rfl (Nat.le_of_ble_eq_true rfl) (fun h2 q1 => ?_)
  subst q1
  refine ab_if_eq (tgt := 23) d_Str_indexOf2_4 (by decide) (fun q3 => by exact absurd q3 (by decide)) (fun q3 => ?_)
  refine ab_aload_n d_Str_indexOf2_7 rfl rfl rfl ?_
  refine ab_getKv (k1 := 102) d_Str_indexOf2_8 (by decide) (by decide) (k4 227 rfl rfl) ?_
  refine ab_iload_n d_Str_indexOf2_11 rfl rfl ?_
  refine ab_iload_n d_Str_indexOf2_12 rfl rfl ?_
  refine ab_aload_n d_Str_indexOf2_13 rfl rfl rfl ?_
  refine ab_callVK_a (k0 := 2) (As := []) (rest := [.int 0, .int c, .float 102]) d_Str_indexOf2_14 (by decide) (c_Str_length_2) (ab_mkC s_Str_length (Nat.le_of_ble_eq_true rfl) (Nat.le_of_ble_eq_true rfl) (by decide) (by decide)) (k4 42 rfl rfl) i_Str_length v_Str_length rfl (Nat.le_of_ble_eq_true rfl) (fun h5 q4 => ?_)
  subst q4
  refine ab_callS_a (As := [.float 102, .int c, .int 0, .int 16]) (rest := []) d_Str_indexOf2_17 (c_SL_indexOf_2) (ab_mkC s_SL_indexOf (Nat.le_of_ble_eq_true rfl) (Nat.le_of_ble_eq_true rfl) (by decide) (by decide)) (k4 43 rfl rfl) t_SL_indexOf rfl (Nat.le_of_ble_eq_true rfl) (fun h7 q6 => ?_)
  subst q6
  refine ab_goto (tgt := 36) d_Str_indexOf2_20 (by decide) ?_
  exact ab_iret d_Str_indexOf2_36 rfl (Nat.le_refl _) (Nat.le_refl _) ⟨rfl, rfl⟩
set_option maxRecDepth 20000 in
set_option maxHeartbeats 2000000 in
theorem c_Str_indexOf_2 {h : List ab_E}  {c : Int32}   : ab_M y_Str_indexOf { frames := 3, cells := 0, slots := 0, locals := 120 } [.float 2, .int c] h (ab_A (some (.int (if sp_SL_canEncode c = 0 then -1 else lx_ix c))) (fun h1 => h = h1)) := by
  refine ab_of2 (lv := [some (.float 2), some (.int c)]) 0 rfl (by decide +kernel) (Nat.le_of_ble_eq_true rfl) ?_
  refine ab_aload_n d_Str_indexOf_0 rfl rfl rfl ?_
  refine ab_iload_n d_Str_indexOf_1 rfl rfl ?_
  refine ab_iconst (v := 0) d_Str_indexOf_2 (by decide) ?_
  refine ab_callVK_a (k0 := 2) (As := [.int c, .int 0]) (rest := []) d_Str_indexOf_3 (by decide) (c_Str_indexOf2_2) (ab_mkC s_Str_indexOf2 (Nat.le_of_ble_eq_true rfl) (Nat.le_of_ble_eq_true rfl) (by decide) (by decide)) (k4 38 rfl rfl) i_Str_indexOf2 v_Str_indexOf2 rfl (Nat.le_of_ble_eq_true rfl) (fun h2 q1 => ?_)
  subst q1
  exact ab_iret d_Str_indexOf_6 rfl (Nat.le_refl _) (Nat.le_refl _) ⟨rfl, rfl⟩
