def y_Str_coder : ab_Y := (⟨"java/lang/String", "coder", "()B"⟩, prog_25_method_152_code, 1, (some FieldType.byte), [])
theorem d_Str_coder_0 : decode y_Str_coder.2.1 0 = .ok (.getstatic 38, 3) := by decide +kernel
theorem d_Str_coder_3 : decode y_Str_coder.2.1 3 = .ok (.ifCond .eq 10, 3) := by decide +kernel
theorem d_Str_coder_6 : decode y_Str_coder.2.1 6 = .ok (.aload_n 0, 1) := by decide +kernel
theorem d_Str_coder_7 : decode y_Str_coder.2.1 7 = .ok (.getfield 15, 3) := by decide +kernel
theorem d_Str_coder_10 : decode y_Str_coder.2.1 10 = .ok (.goto 4, 3) := by decide +kernel
theorem d_Str_coder_13 : decode y_Str_coder.2.1 13 = .ok (.iconst 1, 1) := by decide +kernel
theorem d_Str_coder_14 : decode y_Str_coder.2.1 14 = .ok (.ireturn, 1) := by decide +kernel
theorem s_Str_coder : ab_Stat y_Str_coder 0 := ⟨(k1 53 rfl rfl), (k1 3 rfl rfl), ⟨by decide, by decide⟩, by decide +kernel⟩
theorem i_Str_coder : Cond.instanceMethod y_Str_coder.1 ∈ ab_T := (k1 51 rfl rfl)
theorem v_Str_coder : Cond.selects "java/lang/String" y_Str_coder.1 y_Str_coder.1 ∈ ab_T := (k1 52 rfl rfl)
def F_Str_coder (N : Nat) (p0 : Nat) (H : Hp) : Option (Int32 × Hp) :=
    if (1 : Int32) = (0 : Int32) then
    some (1, H)
    else
    ck (H.sh[p0]? = some (16, 0)) <|
    bnd ((H.D p0 1)) fun x3 =>
    ck (x3.toInt8.toInt32 = x3) <|
    some (x3, H)
set_option maxRecDepth 20000 in
set_option maxHeartbeats 2000000 in
theorem m_Str_coder {N : Nat} {p0 : Nat} {H : Hp} {r : Int32 × Hp} (hF : F_Str_coder N p0 H = some r) : Sa H r.2 := by
  unfold F_Str_coder at hF
  have hm := Sa.rf H
  rcases ite_s hF with ⟨q_1, hG⟩ | ⟨q_1, hG⟩
  · clear hF
    have hr := Option.some.inj hG; subst hr
    exact hm
  · clear hF
    obtain ⟨q6, hF⟩ := ck_s hG; clear hG
    obtain ⟨x7, -, hG⟩ := bnd_g hF; clear hF
    obtain ⟨q8, hF⟩ := ck_s hG; clear hG
    have hr := Option.some.inj hF; subst hr
    exact hm
set_option maxRecDepth 20000 in
set_option maxHeartbeats 2000000 in
theorem k_Str_coder {N : Nat} {p0 : Nat} {H : Hp} {r : Int32 × Hp} (hF : F_Str_coder N p0 H = some r) : ab_M y_Str_coder { frames := 0, cells := 0, slots := 0, locals := 0 } [.ref p0] (hpw H) (po (.returned (some (.int r.1))) r.2) := by
  unfold F_Str_coder at hF
  refine ab_of2 (lv := [some (.ref p0)]) 0 rfl (by decide +kernel) (Nat.le_of_ble_eq_true rfl) ?_
  refine ab_getsC d_Str_coder_0 (k1 54 rfl rfl) ?_
  refine ab_if_eq (tgt := 13) d_Str_coder_3 (by decide) (fun q1 => ?_) (fun q1 => ?_)
  · rw [if_pos q1] at hF
    refine ab_iconst (v := 1) d_Str_coder_13 (by decide) ?_
    exact ab_zret d_Str_coder_14 rfl rfl (Nat.le_refl _) (Nat.le_refl _) (by have hr := Option.some.inj hF; subst hr; exact ⟨rfl, rfl⟩)
  · rw [if_neg q1] at hF
    refine ab_aload_n d_Str_coder_6 rfl rfl rfl ?_
    obtain ⟨q2, hG⟩ := ck_s hF; clear hF
    refine hp_getI (f := 1) d_Str_coder_7 q2 (by decide) rfl (by decide) (k4 228 rfl rfl) rfl ?_
    refine ab_topi (fun x3 ex3 => ?_)
    replace hG := bnd_s ex3 hG
    refine ab_goto (tgt := 14) d_Str_coder_10 (by decide) ?_
    obtain ⟨q4, hF⟩ := ck_s hG; clear hG
    exact ab_zret d_Str_coder_14 rfl (congrArg Value.int q4) (Nat.le_refl _) (Nat.le_refl _) (by have hr := Option.some.inj hF; subst hr; exact ⟨rfl, rfl⟩)
def y_Str_length : ab_Y := (⟨"java/lang/String", "length", "()I"⟩, prog_25_method_54_code, 1, (some FieldType.int), [])
theorem d_Str_length_0 : decode y_Str_length.2.1 0 = .ok (.aload_n 0, 1) := by decide +kernel
theorem d_Str_length_1 : decode y_Str_length.2.1 1 = .ok (.getfield 9, 3) := by decide +kernel
theorem d_Str_length_4 : decode y_Str_length.2.1 4 = .ok (.arraylength, 1) := by decide +kernel
theorem d_Str_length_5 : decode y_Str_length.2.1 5 = .ok (.aload_n 0, 1) := by decide +kernel
theorem d_Str_length_6 : decode y_Str_length.2.1 6 = .ok (.invokevirtual 335, 3) := by decide +kernel
theorem d_Str_length_9 : decode y_Str_length.2.1 9 = .ok (.ishr, 1) := by decide +kernel
theorem d_Str_length_10 : decode y_Str_length.2.1 10 = .ok (.ireturn, 1) := by decide +kernel
theorem s_Str_length : ab_Stat y_Str_length 0 := ⟨(k1 49 rfl rfl), (k1 3 rfl rfl), ⟨by decide, by decide⟩, by decide +kernel⟩
theorem i_Str_length : Cond.instanceMethod y_Str_length.1 ∈ ab_T := (k1 47 rfl rfl)
theorem v_Str_length : Cond.selects "java/lang/String" y_Str_length.1 y_Str_length.1 ∈ ab_T := (k1 48 rfl rfl)
def F_Str_length (N : Nat) (p0 : Nat) (H : Hp) : Option (Int32 × Hp) :=
    ck (H.sh[p0]? = some (16, 0)) <|
    rf (H.P p0 0) fun a2 =>
    ar H 101 a2 fun n4 =>
    bC (F_Str_coder N p0 H) fun v7 H8 =>
    some ((Int32.ofNat n4) >>> (v7 &&& 31), H8)
set_option maxRecDepth 20000 in
set_option maxHeartbeats 2000000 in
theorem m_Str_length {N : Nat} {p0 : Nat} {H : Hp} {r : Int32 × Hp} (hF : F_Str_length N p0 H = some r) : Sa H r.2 := by
  unfold F_Str_length at hF
  have hm := Sa.rf H
  obtain ⟨q9, hG⟩ := ck_s hF; clear hF
  obtain ⟨a10, e11, hF⟩ := rf_s hG; clear hG
  obtain ⟨n12, q13, hG⟩ := ar_s hF; clear hF
  obtain ⟨v15, H16, z14, hF⟩ := bC_s hG; clear hG
  replace hm : Sa H H16 := hm.tr (m_Str_coder z14)
  have hr := Option.some.inj hF; subst hr
  exact hm
set_option maxRecDepth 20000 in
set_option maxHeartbeats 2000000 in
theorem k_Str_length {N : Nat} {p0 : Nat} {H : Hp} {r : Int32 × Hp} (hF : F_Str_length N p0 H = some r) : ab_M y_Str_length { frames := 1, cells := 0, slots := 0, locals := 20 } [.ref p0] (hpw H) (po (.returned (some (.int r.1))) r.2) := by
  unfold F_Str_length at hF
  refine ab_of2 (lv := [some (.ref p0)]) 0 rfl (by decide +kernel) (Nat.le_of_ble_eq_true rfl) ?_
  refine ab_aload_n d_Str_length_0 rfl rfl rfl ?_
  obtain ⟨q1, hG⟩ := ck_s hF; clear hF
  obtain ⟨a2, e3, hF⟩ := rf_s hG; clear hG
  refine hp_getR (f := 0) d_Str_length_1 q1 (by decide) rfl (by decide) (k4 227 rfl rfl) rfl e3 ?_
  obtain ⟨n4, q5, hG⟩ := ar_s hF; clear hF
  refine hp_alen (q := 101) d_Str_length_4 q5 (Or.inl ⟨by decide, by decide, rfl⟩) tB ?_
  refine ab_aload_n d_Str_length_5 rfl rfl rfl ?_
  obtain ⟨v7, H8, z6, hF⟩ := bC_s hG; clear hG
  refine hp_callV_a (v := .int v7) (H1 := H8) (As := []) (rest := [.int (Int32.ofNat n4)]) d_Str_length_6 (k_Str_coder z6) (ab_mkC s_Str_coder (Nat.le_of_ble_eq_true rfl) (Nat.le_of_ble_eq_true rfl) (Nat.le_refl 0) (Nat.le_refl 0)) (k1 50 rfl rfl) i_Str_coder v_Str_coder q1 (by decide) rfl rfl (Nat.le_of_ble_eq_true rfl) ?_
  have s_1 : Sa H H8 := (m_Str_coder z6)
  refine ab_ishr d_Str_length_9 ?_
  exact ab_iret d_Str_length_10 rfl (Nat.le_refl _) (Nat.le_refl _) (by have hr := Option.some.inj hF; subst hr; exact ⟨rfl, rfl⟩)
def y_Str_isLatin1 : ab_Y := (⟨"java/lang/String", "isLatin1", "()Z"⟩, prog_25_method_154_code, 1, (some FieldType.boolean), [])
theorem d_Str_isLatin1_0 : decode y_Str_isLatin1.2.1 0 = .ok (.getstatic 38, 3) := by decide +kernel
theorem d_Str_isLatin1_3 : decode y_Str_isLatin1.2.1 3 = .ok (.ifCond .eq 14, 3) := by decide +kernel
theorem d_Str_isLatin1_6 : decode y_Str_isLatin1.2.1 6 = .ok (.aload_n 0, 1) := by decide +kernel
theorem d_Str_isLatin1_7 : decode y_Str_isLatin1.2.1 7 = .ok (.getfield 15, 3) := by decide +kernel
theorem d_Str_isLatin1_10 : decode y_Str_isLatin1.2.1 10 = .ok (.ifCond .ne 7, 3) := by decide +kernel
theorem d_Str_isLatin1_13 : decode y_Str_isLatin1.2.1 13 = .ok (.iconst 1, 1) := by decide +kernel
theorem d_Str_isLatin1_14 : decode y_Str_isLatin1.2.1 14 = .ok (.goto 4, 3) := by decide +kernel
theorem d_Str_isLatin1_17 : decode y_Str_isLatin1.2.1 17 = .ok (.iconst 0, 1) := by decide +kernel
theorem d_Str_isLatin1_18 : decode y_Str_isLatin1.2.1 18 = .ok (.ireturn, 1) := by decide +kernel
theorem s_Str_isLatin1 : ab_Stat y_Str_isLatin1 0 := ⟨(k1 63 rfl rfl), (k1 3 rfl rfl), ⟨by decide, by decide⟩, by decide +kernel⟩
theorem i_Str_isLatin1 : Cond.instanceMethod y_Str_isLatin1.1 ∈ ab_T := (k1 61 rfl rfl)
theorem v_Str_isLatin1 : Cond.selects "java/lang/String" y_Str_isLatin1.1 y_Str_isLatin1.1 ∈ ab_T := (k1 62 rfl rfl)
def F_Str_isLatin1 (N : Nat) (p0 : Nat) (H : Hp) : Option (Int32 × Hp) :=
    if (1 : Int32) = (0 : Int32) then
    some (0, H)
    else
    ck (H.sh[p0]? = some (16, 0)) <|
    bnd ((H.D p0 1)) fun x3 =>
    if x3 = (0 : Int32) then
    some (1, H)
    else
    some (0, H)
set_option maxRecDepth 20000 in
set_option maxHeartbeats 2000000 in
theorem m_Str_isLatin1 {N : Nat} {p0 : Nat} {H : Hp} {r : Int32 × Hp} (hF : F_Str_isLatin1 N p0 H = some r) : Sa H r.2 := by
  unfold F_Str_isLatin1 at hF
  have hm := Sa.rf H
  rcases ite_s hF with ⟨q_1, hG⟩ | ⟨q_1, hG⟩
  · clear hF
    have hr := Option.some.inj hG; subst hr
    exact hm
  · clear hF
    obtain ⟨q6, hF⟩ := ck_s hG; clear hG
    obtain ⟨x7, -, hG⟩ := bnd_g hF; clear hF
    rcases ite_s hG with ⟨q_2, hF⟩ | ⟨q_2, hF⟩
    · clear hG
      have hr := Option.some.inj hF; subst hr
      exact hm
    · clear hG
      have hr := Option.some.inj hF; subst hr
      exact hm
set_option maxRecDepth 20000 in
set_option maxHeartbeats 2000000 in
theorem k_Str_isLatin1 {N : Nat} {p0 : Nat} {H : Hp} {r : Int32 × Hp} (hF : F_Str_isLatin1 N p0 H = some r) : ab_M y_Str_isLatin1 { frames := 0, cells := 0, slots := 0, locals := 0 } [.ref p0] (hpw H) (po (.returned (some (.int r.1))) r.2) := by
  unfold F_Str_isLatin1 at hF
  refine ab_of2 (lv := [some (.ref p0)]) 0 rfl (by decide +kernel) (Nat.le_of_ble_eq_true rfl) ?_
  refine ab_getsC d_Str_isLatin1_0 (k1 54 rfl rfl) ?_
  refine ab_if_eq (tgt := 17) d_Str_isLatin1_3 (by decide) (fun q1 => ?_) (fun q1 => ?_)
  · rw [if_pos q1] at hF
    refine ab_iconst (v := 0) d_Str_isLatin1_17 (by decide) ?_
    exact ab_zret d_Str_isLatin1_18 rfl rfl (Nat.le_refl _) (Nat.le_refl _) (by have hr := Option.some.inj hF; subst hr; exact ⟨rfl, rfl⟩)
  · rw [if_neg q1] at hF
    refine ab_aload_n d_Str_isLatin1_6 rfl rfl rfl ?_
    obtain ⟨q2, hG⟩ := ck_s hF; clear hF
    refine hp_getI (f := 1) d_Str_isLatin1_7 q2 (by decide) rfl (by decide) (k4 228 rfl rfl) rfl ?_
    refine ab_topi (fun x3 ex3 => ?_)
    replace hG := bnd_s ex3 hG
    refine ab_if_ne (tgt := 17) d_Str_isLatin1_10 (by decide) (fun q4 => ?_) (fun q4 => ?_)
    · rw [if_neg q4] at hG
      refine ab_iconst (v := 0) d_Str_isLatin1_17 (by decide) ?_
      exact ab_zret d_Str_isLatin1_18 rfl rfl (Nat.le_refl _) (Nat.le_refl _) (by have hr := Option.some.inj hG; subst hr; exact ⟨rfl, rfl⟩)
    · rw [if_pos q4] at hG
      refine ab_iconst (v := 1) d_Str_isLatin1_13 (by decide) ?_
      refine ab_goto (tgt := 18) d_Str_isLatin1_14 (by decide) ?_
      exact ab_zret d_Str_isLatin1_18 rfl rfl (Nat.le_refl _) (Nat.le_refl _) (by have hr := Option.some.inj hG; subst hr; exact ⟨rfl, rfl⟩)
def y_Pre_checkIndex : ab_Y := (⟨"jdk/internal/util/Preconditions", "checkIndex", "(IILjava/util/function/BiFunction;)I"⟩, prog_32_method_11_code, 3, (some FieldType.int), [])
theorem d_Pre_checkIndex_0 : decode y_Pre_checkIndex.2.1 0 = .ok (.iload_n 0, 1) := by decide +kernel
theorem d_Pre_checkIndex_1 : decode y_Pre_checkIndex.2.1 1 = .ok (.ifCond .lt 8, 3) := by decide +kernel
theorem d_Pre_checkIndex_4 : decode y_Pre_checkIndex.2.1 4 = .ok (.iload_n 0, 1) := by decide +kernel
theorem d_Pre_checkIndex_5 : decode y_Pre_checkIndex.2.1 5 = .ok (.iload_n 1, 1) := by decide +kernel
theorem d_Pre_checkIndex_6 : decode y_Pre_checkIndex.2.1 6 = .ok (.if_icmp .lt 10, 3) := by decide +kernel
theorem d_Pre_checkIndex_9 : decode y_Pre_checkIndex.2.1 9 = .ok (.aload_n 2, 1) := by decide +kernel
theorem d_Pre_checkIndex_10 : decode y_Pre_checkIndex.2.1 10 = .ok (.iload_n 0, 1) := by decide +kernel
theorem d_Pre_checkIndex_11 : decode y_Pre_checkIndex.2.1 11 = .ok (.iload_n 1, 1) := by decide +kernel
theorem d_Pre_checkIndex_12 : decode y_Pre_checkIndex.2.1 12 = .ok (.invokestatic 95, 3) := by decide +kernel
theorem d_Pre_checkIndex_15 : decode y_Pre_checkIndex.2.1 15 = .ok (.athrow, 1) := by decide +kernel
theorem d_Pre_checkIndex_16 : decode y_Pre_checkIndex.2.1 16 = .ok (.iload_n 0, 1) := by decide +kernel
theorem d_Pre_checkIndex_17 : decode y_Pre_checkIndex.2.1 17 = .ok (.ireturn, 1) := by decide +kernel
theorem s_Pre_checkIndex : ab_Stat y_Pre_checkIndex 3 := ⟨(k1 74 rfl rfl), (k1 5 rfl rfl), ⟨by decide, by decide⟩, by decide +kernel⟩
theorem t_Pre_checkIndex : Cond.static y_Pre_checkIndex.1 ∈ ab_T := (k1 73 rfl rfl)
set_option maxRecDepth 20000 in
set_option maxHeartbeats 2000000 in
theorem c_Pre_checkIndex_n  {i n : Int32} {H : Hp}  (h0 : ¬ i < 0) (h1 : i < n) : ab_M y_Pre_checkIndex { frames := 0, cells := 0, slots := 0, locals := 0 } [.int i, .int n, .null] (hpw H) (po (.returned (some (.int i))) H) := by
  refine ab_of2 (lv := [some (.int i), some (.int n), some (.null)]) 0 rfl (by decide +kernel) (Nat.le_of_ble_eq_true rfl) ?_
  refine ab_iload_n d_Pre_checkIndex_0 rfl rfl ?_
  refine ab_if_lt (tgt := 9) d_Pre_checkIndex_1 (by decide) (fun q1 => ?_) (fun q1 => ?_)
  · exact absurd q1 h0
  · refine ab_iload_n d_Pre_checkIndex_4 rfl rfl ?_
    refine ab_iload_n d_Pre_checkIndex_5 rfl rfl ?_
    refine ab_icmp_lt (tgt := 16) d_Pre_checkIndex_6 (by decide) (fun q2 => ?_) (fun q2 => ?_)
    · refine ab_iload_n d_Pre_checkIndex_16 rfl rfl ?_
      exact ab_iret d_Pre_checkIndex_17 rfl (Nat.le_refl _) (Nat.le_refl _) ⟨rfl, rfl⟩
    · exact absurd h1 q2
set_option maxRecDepth 20000 in
set_option maxHeartbeats 2000000 in
theorem c_Pre_checkIndex_r  {i n : Int32} {H : Hp} {z : Nat}  (h0 : ¬ i < 0) (h1 : i < n) : ab_M y_Pre_checkIndex { frames := 0, cells := 0, slots := 0, locals := 0 } [.int i, .int n, .ref z] (hpw H) (po (.returned (some (.int i))) H) := by
  refine ab_of2 (lv := [some (.int i), some (.int n), some (.ref z)]) 0 rfl (by decide +kernel) (Nat.le_of_ble_eq_true rfl) ?_
  refine ab_iload_n d_Pre_checkIndex_0 rfl rfl ?_
  refine ab_if_lt (tgt := 9) d_Pre_checkIndex_1 (by decide) (fun q1 => ?_) (fun q1 => ?_)
  · exact absurd q1 h0
  · refine ab_iload_n d_Pre_checkIndex_4 rfl rfl ?_
    refine ab_iload_n d_Pre_checkIndex_5 rfl rfl ?_
    refine ab_icmp_lt (tgt := 16) d_Pre_checkIndex_6 (by decide) (fun q2 => ?_) (fun q2 => ?_)
    · refine ab_iload_n d_Pre_checkIndex_16 rfl rfl ?_
      exact ab_iret d_Pre_checkIndex_17 rfl (Nat.le_refl _) (Nat.le_refl _) ⟨rfl, rfl⟩
    · exact absurd h1 q2
set_option maxRecDepth 20000 in
set_option maxHeartbeats 2000000 in
theorem c_Pre_checkIndex_f  {i n : Int32} {H : Hp} {z : UInt32}  (h0 : ¬ i < 0) (h1 : i < n) : ab_M y_Pre_checkIndex { frames := 0, cells := 0, slots := 0, locals := 0 } [.int i, .int n, .float z] (hpw H) (po (.returned (some (.int i))) H) := by
  refine ab_of2 (lv := [some (.int i), some (.int n), some (.float z)]) 0 rfl (by decide +kernel) (Nat.le_of_ble_eq_true rfl) ?_
  refine ab_iload_n d_Pre_checkIndex_0 rfl rfl ?_
  refine ab_if_lt (tgt := 9) d_Pre_checkIndex_1 (by decide) (fun q1 => ?_) (fun q1 => ?_)
  · exact absurd q1 h0
  · refine ab_iload_n d_Pre_checkIndex_4 rfl rfl ?_
    refine ab_iload_n d_Pre_checkIndex_5 rfl rfl ?_
    refine ab_icmp_lt (tgt := 16) d_Pre_checkIndex_6 (by decide) (fun q2 => ?_) (fun q2 => ?_)
    · refine ab_iload_n d_Pre_checkIndex_16 rfl rfl ?_
      exact ab_iret d_Pre_checkIndex_17 rfl (Nat.le_refl _) (Nat.le_refl _) ⟨rfl, rfl⟩
    · exact absurd h1 q2
def F_Pre_checkIndex (N : Nat) (i n : Int32) (H : Hp) : Option (Int32 × Hp) := ck (¬ i < 0) <| ck (i < n) <| some (i, H)
theorem m_Pre_checkIndex {N : Nat} {i n : Int32} {H : Hp} {r : Int32 × Hp} (hF : F_Pre_checkIndex N i n H = some r) : Sa H r.2 := by
  obtain ⟨-, hF⟩ := ck_s hF
  obtain ⟨-, hF⟩ := ck_s hF
  cases hF
  exact Sa.rf _
theorem k_Pre_checkIndex {N : Nat} {i n : Int32} {H : Hp} {v : Value} {r : Int32 × Hp} (ev : ab_ir v = true) (hF : F_Pre_checkIndex N i n H = some r) : ab_M y_Pre_checkIndex { frames := 0, cells := 0, slots := 0, locals := 0 } [.int i, .int n, v] (hpw H) (po (.returned (some (.int r.1))) r.2) := by
  obtain ⟨h0, hF⟩ := ck_s hF
  obtain ⟨h1, hF⟩ := ck_s hF
  cases hF
  cases v <;> first | exact c_Pre_checkIndex_n h0 h1 | exact c_Pre_checkIndex_r h0 h1 | exact c_Pre_checkIndex_f h0 h1 | cases ev
def y_Str_checkIndex : ab_Y := (⟨"java/lang/String", "checkIndex", "(II)V"⟩, prog_25_method_155_code, 2, none, [])
theorem d_Str_checkIndex_0 : decode y_Str_checkIndex.2.1 0 = .ok (.iload_n 0, 1) := by decide +kernel
theorem d_Str_checkIndex_1 : decode y_Str_checkIndex.2.1 1 = .ok (.iload_n 1, 1) := by decide +kernel
theorem d_Str_checkIndex_2 : decode y_Str_checkIndex.2.1 2 = .ok (.getstatic 1053, 3) := by decide +kernel
theorem d_Str_checkIndex_5 : decode y_Str_checkIndex.2.1 5 = .ok (.invokestatic 1059, 3) := by decide +kernel
theorem d_Str_checkIndex_8 : decode y_Str_checkIndex.2.1 8 = .ok (.pop, 1) := by decide +kernel
theorem d_Str_checkIndex_9 : decode y_Str_checkIndex.2.1 9 = .ok (.return_, 1) := by decide +kernel
theorem s_Str_checkIndex : ab_Stat y_Str_checkIndex 2 := ⟨(k1 69 rfl rfl), (k1 3 rfl rfl), ⟨by decide, by decide⟩, by decide +kernel⟩
theorem t_Str_checkIndex : Cond.static y_Str_checkIndex.1 ∈ ab_T := (k1 68 rfl rfl)
def F_Str_checkIndex (N : Nat) (p0 : Int32) (p1 : Int32) (H : Hp) : Option (Unit × Hp) :=
    bC (F_Pre_checkIndex N p0 p1 H) fun v3 H4 =>
    some ((), H4)
set_option maxRecDepth 20000 in
set_option maxHeartbeats 2000000 in
theorem m_Str_checkIndex {N : Nat} {p0 : Int32} {p1 : Int32} {H : Hp} {r : Unit × Hp} (hF : F_Str_checkIndex N p0 p1 H = some r) : Sa H r.2 := by
  unfold F_Str_checkIndex at hF
  have hm := Sa.rf H
  obtain ⟨v7, H8, z6, hG⟩ := bC_s hF; clear hF
  replace hm : Sa H H8 := hm.tr (m_Pre_checkIndex z6)
  have hr := Option.some.inj hG; subst hr
  exact hm
set_option maxRecDepth 20000 in
set_option maxHeartbeats 2000000 in
theorem k_Str_checkIndex {N : Nat} {p0 : Int32} {p1 : Int32} {H : Hp} {r : Unit × Hp} (hF : F_Str_checkIndex N p0 p1 H = some r) : ab_M y_Str_checkIndex { frames := 1, cells := 0, slots := 0, locals := 22 } [.int p0, .int p1] (hpw H) (po (.returned none) r.2) := by
  unfold F_Str_checkIndex at hF
  refine ab_of2 (lv := [some (.int p0), some (.int p1)]) 0 rfl (by decide +kernel) (Nat.le_of_ble_eq_true rfl) ?_
  refine ab_iload_n d_Str_checkIndex_0 rfl rfl ?_
  refine ab_iload_n d_Str_checkIndex_1 rfl rfl ?_
  refine ab_getsF d_Str_checkIndex_2 (k1 70 rfl rfl) (fun w1 ew1 => ?_)
  obtain ⟨v3, H4, z2, hG⟩ := bC_s hF; clear hF
  refine hp_callS_a (v := .int v3) (H1 := H4) (As := [.int p0, .int p1, w1]) (rest := []) d_Str_checkIndex_5 (k_Pre_checkIndex ew1 z2) (ab_mkC s_Pre_checkIndex (Nat.le_of_ble_eq_true rfl) (Nat.le_of_ble_eq_true rfl) (Nat.le_refl 0) (Nat.le_refl 0)) (k1 72 rfl rfl) t_Pre_checkIndex rfl (Nat.le_of_ble_eq_true rfl) ?_
  have s_1 : Sa H H4 := (m_Pre_checkIndex z2)
  refine ab_pop d_Str_checkIndex_8 rfl ?_
  exact ab_vret d_Str_checkIndex_9 rfl (Nat.le_refl _) (Nat.le_refl _) (by have hr := Option.some.inj hG; subst hr; exact ⟨rfl, rfl⟩)
def y_SL_charAt : ab_Y := (⟨"java/lang/StringLatin1", "charAt", "([BI)C"⟩, prog_26_method_2_code, 2, (some FieldType.char), [])
theorem d_SL_charAt_0 : decode y_SL_charAt.2.1 0 = .ok (.iload_n 1, 1) := by decide +kernel
theorem d_SL_charAt_1 : decode y_SL_charAt.2.1 1 = .ok (.aload_n 0, 1) := by decide +kernel
theorem d_SL_charAt_2 : decode y_SL_charAt.2.1 2 = .ok (.arraylength, 1) := by decide +kernel
theorem d_SL_charAt_3 : decode y_SL_charAt.2.1 3 = .ok (.invokestatic 9, 3) := by decide +kernel
theorem d_SL_charAt_6 : decode y_SL_charAt.2.1 6 = .ok (.aload_n 0, 1) := by decide +kernel
theorem d_SL_charAt_7 : decode y_SL_charAt.2.1 7 = .ok (.iload_n 1, 1) := by decide +kernel
theorem d_SL_charAt_8 : decode y_SL_charAt.2.1 8 = .ok (.baload, 1) := by decide +kernel
theorem d_SL_charAt_9 : decode y_SL_charAt.2.1 9 = .ok (.sipush 255, 3) := by decide +kernel
theorem d_SL_charAt_12 : decode y_SL_charAt.2.1 12 = .ok (.iand, 1) := by decide +kernel
theorem d_SL_charAt_13 : decode y_SL_charAt.2.1 13 = .ok (.i2c, 1) := by decide +kernel
theorem d_SL_charAt_14 : decode y_SL_charAt.2.1 14 = .ok (.ireturn, 1) := by decide +kernel
theorem s_SL_charAt : ab_Stat y_SL_charAt 2 := ⟨(k1 66 rfl rfl), (k1 4 rfl rfl), ⟨by decide, by decide⟩, by decide +kernel⟩
theorem t_SL_charAt : Cond.static y_SL_charAt.1 ∈ ab_T := (k1 65 rfl rfl)
def F_SL_charAt (N : Nat) (p0 : Nat) (p1 : Int32) (H : Hp) : Option (Int32 × Hp) :=
    ar H 101 p0 fun n1 =>
    bC (F_Str_checkIndex N p1 (Int32.ofNat n1) H) fun v4 H5 =>
    ck (inb p1 n1) <|
    bnd ((H5.D p0 (p1).toNatClampNeg)) fun x7 =>
    bnd (((((x7 &&& (255 : Int32)) : Int32).toUInt32 % 65536).toInt32)) fun x8 =>
    ck (x8.toUInt32.toUInt16.toUInt32.toInt32 = x8) <|
    some (x8, H5)
set_option maxRecDepth 20000 in
set_option maxHeartbeats 2000000 in
theorem m_SL_charAt {N : Nat} {p0 : Nat} {p1 : Int32} {H : Hp} {r : Int32 × Hp} (hF : F_SL_charAt N p0 p1 H = some r) : Sa H r.2 := by
  unfold F_SL_charAt at hF
  have hm := Sa.rf H
  obtain ⟨n10, q11, hG⟩ := ar_s hF; clear hF
  obtain ⟨v13, H14, z12, hF⟩ := bC_s hG; clear hG
  replace hm : Sa H H14 := hm.tr (m_Str_checkIndex z12)
  obtain ⟨q15, hG⟩ := ck_s hF; clear hF
  obtain ⟨x16, -, hF⟩ := bnd_g hG; clear hG
  obtain ⟨x17, -, hG⟩ := bnd_g hF; clear hF
  obtain ⟨q18, hF⟩ := ck_s hG; clear hG
  have hr := Option.some.inj hF; subst hr
  exact hm
set_option maxRecDepth 20000 in
set_option maxHeartbeats 2000000 in
theorem k_SL_charAt {N : Nat} {p0 : Nat} {p1 : Int32} {H : Hp} {r : Int32 × Hp} (hF : F_SL_charAt N p0 p1 H = some r) : ab_M y_SL_charAt { frames := 2, cells := 0, slots := 0, locals := 43 } [.ref p0, .int p1] (hpw H) (po (.returned (some (.int r.1))) r.2) := by
  unfold F_SL_charAt at hF
  refine ab_of2 (lv := [some (.ref p0), some (.int p1)]) 0 rfl (by decide +kernel) (Nat.le_of_ble_eq_true rfl) ?_
  refine ab_iload_n d_SL_charAt_0 rfl rfl ?_
  refine ab_aload_n d_SL_charAt_1 rfl rfl rfl ?_
  obtain ⟨n1, q2, hG⟩ := ar_s hF; clear hF
  refine hp_alen (q := 101) d_SL_charAt_2 q2 (Or.inl ⟨by decide, by decide, rfl⟩) tB ?_
  obtain ⟨v4, H5, z3, hF⟩ := bC_s hG; clear hG
  refine hp_callS_v (H1 := H5) (As := [.int p1, .int (Int32.ofNat n1)]) (rest := []) d_SL_charAt_3 (k_Str_checkIndex z3) (ab_mkC s_Str_checkIndex (Nat.le_of_ble_eq_true rfl) (Nat.le_of_ble_eq_true rfl) (Nat.le_refl 0) (Nat.le_refl 0)) (k1 67 rfl rfl) t_Str_checkIndex rfl (Nat.le_of_ble_eq_true rfl) ?_
  have s_1 : Sa H H5 := (m_Str_checkIndex z3)
  refine ab_aload_n d_SL_charAt_6 rfl rfl rfl ?_
  refine ab_iload_n d_SL_charAt_7 rfl rfl ?_
  obtain ⟨q6, hG⟩ := ck_s hF; clear hF
  refine hp_bald d_SL_charAt_8 tB (by rw [(s_1).1]; exact q2) q6 ?_
  refine ab_topi (fun x7 ex7 => ?_)
  replace hG := bnd_s ex7 hG
  refine ab_sipush (v := 255) d_SL_charAt_9 (by decide) ?_
  refine ab_iand d_SL_charAt_12 ?_
  refine ab_i2c d_SL_charAt_13 ?_
  refine ab_topi (fun x8 ex8 => ?_)
  replace hG := bnd_s ex8 hG
  obtain ⟨q9, hF⟩ := ck_s hG; clear hG
  exact ab_zret d_SL_charAt_14 rfl (congrArg Value.int q9) (Nat.le_refl _) (Nat.le_refl _) (by have hr := Option.some.inj hF; subst hr; exact ⟨rfl, rfl⟩)
def y_Str_charAt : ab_Y := (⟨"java/lang/String", "charAt", "(I)C"⟩, prog_25_method_56_code, 2, (some FieldType.char), [])
theorem d_Str_charAt_0 : decode y_Str_charAt.2.1 0 = .ok (.aload_n 0, 1) := by decide +kernel
theorem d_Str_charAt_1 : decode y_Str_charAt.2.1 1 = .ok (.invokevirtual 492, 3) := by decide +kernel
theorem d_Str_charAt_4 : decode y_Str_charAt.2.1 4 = .ok (.ifCond .eq 12, 3) := by decide +kernel
theorem d_Str_charAt_7 : decode y_Str_charAt.2.1 7 = .ok (.aload_n 0, 1) := by decide +kernel
theorem d_Str_charAt_8 : decode y_Str_charAt.2.1 8 = .ok (.getfield 9, 3) := by decide +kernel
theorem d_Str_charAt_11 : decode y_Str_charAt.2.1 11 = .ok (.iload_n 1, 1) := by decide +kernel
theorem d_Str_charAt_12 : decode y_Str_charAt.2.1 12 = .ok (.invokestatic 495, 3) := by decide +kernel
theorem d_Str_charAt_15 : decode y_Str_charAt.2.1 15 = .ok (.ireturn, 1) := by decide +kernel
theorem d_Str_charAt_16 : decode y_Str_charAt.2.1 16 = .ok (.aload_n 0, 1) := by decide +kernel
theorem d_Str_charAt_17 : decode y_Str_charAt.2.1 17 = .ok (.getfield 9, 3) := by decide +kernel
theorem d_Str_charAt_20 : decode y_Str_charAt.2.1 20 = .ok (.iload_n 1, 1) := by decide +kernel
theorem d_Str_charAt_21 : decode y_Str_charAt.2.1 21 = .ok (.invokestatic 498, 3) := by decide +kernel
theorem d_Str_charAt_24 : decode y_Str_charAt.2.1 24 = .ok (.ireturn, 1) := by decide +kernel
theorem s_Str_charAt : ab_Stat y_Str_charAt 1 := ⟨(k1 59 rfl rfl), (k1 3 rfl rfl), ⟨by decide, by decide⟩, by decide +kernel⟩
theorem i_Str_charAt : Cond.instanceMethod y_Str_charAt.1 ∈ ab_T := (k1 57 rfl rfl)
theorem v_Str_charAt : Cond.selects "java/lang/String" y_Str_charAt.1 y_Str_charAt.1 ∈ ab_T := (k1 58 rfl rfl)
def F_Str_charAt (N : Nat) (p0 : Nat) (p1 : Int32) (H : Hp) : Option (Int32 × Hp) :=
    ck (H.sh[p0]? = some (16, 0)) <|
    bC (F_Str_isLatin1 N p0 H) fun v3 H4 =>
    if v3 = (0 : Int32) then
    rf (H4.P p0 0) fun a6 =>
    none
    else
    rf (H4.P p0 0) fun a8 =>
    bC (F_SL_charAt N a8 p1 H4) fun v11 H12 =>
    ck (v11.toUInt32.toUInt16.toUInt32.toInt32 = v11) <|
    some (v11, H12)
set_option maxRecDepth 20000 in
set_option maxHeartbeats 2000000 in
theorem m_Str_charAt {N : Nat} {p0 : Nat} {p1 : Int32} {H : Hp} {r : Int32 × Hp} (hF : F_Str_charAt N p0 p1 H = some r) : Sa H r.2 := by
  unfold F_Str_charAt at hF
  have hm := Sa.rf H
  obtain ⟨q14, hG⟩ := ck_s hF; clear hF
  obtain ⟨v16, H17, z15, hF⟩ := bC_s hG; clear hG
  replace hm : Sa H H17 := hm.tr (m_Str_isLatin1 z15)
  rcases ite_s hF with ⟨q_4, hG⟩ | ⟨q_4, hG⟩
  · clear hF
    obtain ⟨a19, e20, hF⟩ := rf_s hG; clear hG
    cases hF
  · clear hF
    obtain ⟨a21, e22, hF⟩ := rf_s hG; clear hG
    obtain ⟨v24, H25, z23, hG⟩ := bC_s hF; clear hF
    replace hm : Sa H H25 := hm.tr (m_SL_charAt z23)
    obtain ⟨q26, hF⟩ := ck_s hG; clear hG
    have hr := Option.some.inj hF; subst hr
    exact hm
set_option maxRecDepth 20000 in
set_option maxHeartbeats 2000000 in
theorem k_Str_charAt {N : Nat} {p0 : Nat} {p1 : Int32} {H : Hp} {r : Int32 × Hp} (hF : F_Str_charAt N p0 p1 H = some r) : ab_M y_Str_charAt { frames := 3, cells := 0, slots := 0, locals := 64 } [.ref p0, .int p1] (hpw H) (po (.returned (some (.int r.1))) r.2) := by
  unfold F_Str_charAt at hF
  refine ab_of2 (lv := [some (.ref p0), some (.int p1)]) 0 rfl (by decide +kernel) (Nat.le_of_ble_eq_true rfl) ?_
  refine ab_aload_n d_Str_charAt_0 rfl rfl rfl ?_
  obtain ⟨q1, hG⟩ := ck_s hF; clear hF
  obtain ⟨v3, H4, z2, hF⟩ := bC_s hG; clear hG
  refine hp_callV_a (v := .int v3) (H1 := H4) (As := []) (rest := []) d_Str_charAt_1 (k_Str_isLatin1 z2) (ab_mkC s_Str_isLatin1 (Nat.le_of_ble_eq_true rfl) (Nat.le_of_ble_eq_true rfl) (Nat.le_refl 0) (Nat.le_refl 0)) (k1 60 rfl rfl) i_Str_isLatin1 v_Str_isLatin1 q1 (by decide) rfl rfl (Nat.le_of_ble_eq_true rfl) ?_
  have s_1 : Sa H H4 := (m_Str_isLatin1 z2)
  refine ab_if_eq (tgt := 16) d_Str_charAt_4 (by decide) (fun q5 => ?_) (fun q5 => ?_)
  · rw [if_pos q5] at hF
    refine ab_aload_n d_Str_charAt_16 rfl rfl rfl ?_
    obtain ⟨a6, e7, hG⟩ := rf_s hF; clear hF
    refine hp_getR (f := 0) d_Str_charAt_17 (by rw [(s_1).1]; exact q1) (by decide) rfl (by decide) (k4 227 rfl rfl) rfl e7 ?_
    refine ab_iload_n d_Str_charAt_20 rfl rfl ?_
    cases hG
  · rw [if_neg q5] at hF
    refine ab_aload_n d_Str_charAt_7 rfl rfl rfl ?_
    obtain ⟨a8, e9, hG⟩ := rf_s hF; clear hF
    refine hp_getR (f := 0) d_Str_charAt_8 (by rw [(s_1).1]; exact q1) (by decide) rfl (by decide) (k4 227 rfl rfl) rfl e9 ?_
    refine ab_iload_n d_Str_charAt_11 rfl rfl ?_
    obtain ⟨v11, H12, z10, hF⟩ := bC_s hG; clear hG
    refine hp_callS_a (v := .int v11) (H1 := H12) (As := [.ref a8, .int p1]) (rest := []) d_Str_charAt_12 (k_SL_charAt z10) (ab_mkC s_SL_charAt (Nat.le_of_ble_eq_true rfl) (Nat.le_of_ble_eq_true rfl) (Nat.le_refl 0) (Nat.le_refl 0)) (k1 64 rfl rfl) t_SL_charAt rfl (Nat.le_of_ble_eq_true rfl) ?_
    have s_2 : Sa H H12 := (s_1).tr (m_SL_charAt z10)
    obtain ⟨q13, hG⟩ := ck_s hF; clear hF
    exact ab_zret d_Str_charAt_15 rfl (congrArg Value.int q13) (Nat.le_refl _) (Nat.le_refl _) (by have hr := Option.some.inj hG; subst hr; exact ⟨rfl, rfl⟩)
def y_Lexer_init : ab_Y := (⟨"WorldEngine$Lexer", "<init>", "()V"⟩, prog_3_method_1_code, 3, none, [])
theorem d_Lexer_init_0 : decode y_Lexer_init.2.1 0 = .ok (.aload_n 0, 1) := by decide +kernel
theorem d_Lexer_init_1 : decode y_Lexer_init.2.1 1 = .ok (.invokespecial 1, 3) := by decide +kernel
theorem d_Lexer_init_4 : decode y_Lexer_init.2.1 4 = .ok (.aload_n 0, 1) := by decide +kernel
theorem d_Lexer_init_5 : decode y_Lexer_init.2.1 5 = .ok (.sipush 6000, 3) := by decide +kernel
theorem d_Lexer_init_8 : decode y_Lexer_init.2.1 8 = .ok (.newarray .byte, 2) := by decide +kernel
theorem d_Lexer_init_10 : decode y_Lexer_init.2.1 10 = .ok (.putfield 9, 3) := by decide +kernel
theorem d_Lexer_init_13 : decode y_Lexer_init.2.1 13 = .ok (.aload_n 0, 1) := by decide +kernel
theorem d_Lexer_init_14 : decode y_Lexer_init.2.1 14 = .ok (.sipush 6001, 3) := by decide +kernel
theorem d_Lexer_init_17 : decode y_Lexer_init.2.1 17 = .ok (.newarray .int, 2) := by decide +kernel
theorem d_Lexer_init_19 : decode y_Lexer_init.2.1 19 = .ok (.putfield 13, 3) := by decide +kernel
theorem d_Lexer_init_22 : decode y_Lexer_init.2.1 22 = .ok (.aload_n 0, 1) := by decide +kernel
theorem d_Lexer_init_23 : decode y_Lexer_init.2.1 23 = .ok (.sipush 6001, 3) := by decide +kernel
theorem d_Lexer_init_26 : decode y_Lexer_init.2.1 26 = .ok (.newarray .int, 2) := by decide +kernel
theorem d_Lexer_init_28 : decode y_Lexer_init.2.1 28 = .ok (.putfield 17, 3) := by decide +kernel
theorem d_Lexer_init_31 : decode y_Lexer_init.2.1 31 = .ok (.aload_n 0, 1) := by decide +kernel
theorem d_Lexer_init_32 : decode y_Lexer_init.2.1 32 = .ok (.sipush 6001, 3) := by decide +kernel
theorem d_Lexer_init_35 : decode y_Lexer_init.2.1 35 = .ok (.newarray .int, 2) := by decide +kernel
theorem d_Lexer_init_37 : decode y_Lexer_init.2.1 37 = .ok (.putfield 20, 3) := by decide +kernel
theorem d_Lexer_init_40 : decode y_Lexer_init.2.1 40 = .ok (.aload_n 0, 1) := by decide +kernel
theorem d_Lexer_init_41 : decode y_Lexer_init.2.1 41 = .ok (.sipush 6001, 3) := by decide +kernel
theorem d_Lexer_init_44 : decode y_Lexer_init.2.1 44 = .ok (.newarray .boolean, 2) := by decide +kernel
theorem d_Lexer_init_46 : decode y_Lexer_init.2.1 46 = .ok (.putfield 23, 3) := by decide +kernel
theorem d_Lexer_init_49 : decode y_Lexer_init.2.1 49 = .ok (.aload_n 0, 1) := by decide +kernel
theorem d_Lexer_init_50 : decode y_Lexer_init.2.1 50 = .ok (.bipush 42, 2) := by decide +kernel
theorem d_Lexer_init_52 : decode y_Lexer_init.2.1 52 = .ok (.newarray .int, 2) := by decide +kernel
theorem d_Lexer_init_54 : decode y_Lexer_init.2.1 54 = .ok (.putfield 27, 3) := by decide +kernel
theorem d_Lexer_init_57 : decode y_Lexer_init.2.1 57 = .ok (.iconst 0, 1) := by decide +kernel
theorem d_Lexer_init_58 : decode y_Lexer_init.2.1 58 = .ok (.istore_n 1, 1) := by decide +kernel
theorem d_Lexer_init_59 : decode y_Lexer_init.2.1 59 = .ok (.iconst 0, 1) := by decide +kernel
theorem d_Lexer_init_60 : decode y_Lexer_init.2.1 60 = .ok (.istore_n 2, 1) := by decide +kernel
theorem d_Lexer_init_61 : decode y_Lexer_init.2.1 61 = .ok (.iload_n 2, 1) := by decide +kernel
theorem d_Lexer_init_62 : decode y_Lexer_init.2.1 62 = .ok (.ldc 30, 2) := by decide +kernel
theorem d_Lexer_init_64 : decode y_Lexer_init.2.1 64 = .ok (.invokevirtual 32, 3) := by decide +kernel
theorem d_Lexer_init_67 : decode y_Lexer_init.2.1 67 = .ok (.if_icmp .ge 38, 3) := by decide +kernel
theorem d_Lexer_init_70 : decode y_Lexer_init.2.1 70 = .ok (.ldc 30, 2) := by decide +kernel
theorem d_Lexer_init_72 : decode y_Lexer_init.2.1 72 = .ok (.iload_n 2, 1) := by decide +kernel
theorem d_Lexer_init_73 : decode y_Lexer_init.2.1 73 = .ok (.invokevirtual 38, 3) := by decide +kernel
theorem d_Lexer_init_76 : decode y_Lexer_init.2.1 76 = .ok (.bipush 32, 2) := by decide +kernel
theorem d_Lexer_init_78 : decode y_Lexer_init.2.1 78 = .ok (.if_icmp .ne 21, 3) := by decide +kernel
theorem d_Lexer_init_81 : decode y_Lexer_init.2.1 81 = .ok (.iload_n 1, 1) := by decide +kernel
theorem d_Lexer_init_82 : decode y_Lexer_init.2.1 82 = .ok (.bipush 41, 2) := by decide +kernel
theorem d_Lexer_init_84 : decode y_Lexer_init.2.1 84 = .ok (.if_icmp .ge 15, 3) := by decide +kernel
theorem d_Lexer_init_87 : decode y_Lexer_init.2.1 87 = .ok (.iinc 1 1, 3) := by decide +kernel
theorem d_Lexer_init_90 : decode y_Lexer_init.2.1 90 = .ok (.aload_n 0, 1) := by decide +kernel
theorem d_Lexer_init_91 : decode y_Lexer_init.2.1 91 = .ok (.getfield 27, 3) := by decide +kernel
theorem d_Lexer_init_94 : decode y_Lexer_init.2.1 94 = .ok (.iload_n 1, 1) := by decide +kernel
theorem d_Lexer_init_95 : decode y_Lexer_init.2.1 95 = .ok (.iload_n 2, 1) := by decide +kernel
theorem d_Lexer_init_96 : decode y_Lexer_init.2.1 96 = .ok (.iconst 1, 1) := by decide +kernel
theorem d_Lexer_init_97 : decode y_Lexer_init.2.1 97 = .ok (.iadd, 1) := by decide +kernel
theorem d_Lexer_init_98 : decode y_Lexer_init.2.1 98 = .ok (.iastore, 1) := by decide +kernel
theorem d_Lexer_init_99 : decode y_Lexer_init.2.1 99 = .ok (.iinc 2 1, 3) := by decide +kernel
theorem d_Lexer_init_102 : decode y_Lexer_init.2.1 102 = .ok (.goto (-41), 3) := by decide +kernel
theorem d_Lexer_init_105 : decode y_Lexer_init.2.1 105 = .ok (.return_, 1) := by decide +kernel
theorem s_Lexer_init : ab_Stat y_Lexer_init 0 := ⟨(k1 43 rfl rfl), (k1 2 rfl rfl), ⟨by decide, by decide⟩, by decide +kernel⟩
theorem i_Lexer_init : Cond.instanceMethod y_Lexer_init.1 ∈ ab_T := (k1 42 rfl rfl)
def F_Str_coder_K0 (N : Nat)  (H : Hp) : Option (Int32 × Hp) :=
    if (1 : Int32) = (0 : Int32) then
    some (1, H)
    else
    some (0, H)
set_option maxRecDepth 20000 in
set_option maxHeartbeats 2000000 in
theorem m_Str_coder_K0 {N : Nat}  {H : Hp} {r : Int32 × Hp} (hF : F_Str_coder_K0 N  H = some r) : Sa H r.2 := by
  unfold F_Str_coder_K0 at hF
  have hm := Sa.rf H
  rcases ite_s hF with ⟨q_1, hG⟩ | ⟨q_1, hG⟩
  · clear hF
    have hr := Option.some.inj hG; subst hr
    exact hm
  · clear hF
    have hr := Option.some.inj hG; subst hr
    exact hm
set_option maxRecDepth 20000 in
set_option maxHeartbeats 2000000 in
theorem k_Str_coder_K0 {N : Nat}  {H : Hp} {r : Int32 × Hp} (hF : F_Str_coder_K0 N  H = some r) : ab_M y_Str_coder { frames := 0, cells := 0, slots := 0, locals := 0 } [.float 0] (hpw H) (po (.returned (some (.int r.1))) r.2) := by
  unfold F_Str_coder_K0 at hF
  refine ab_of2 (lv := [some (.float 0)]) 0 rfl (by decide +kernel) (Nat.le_of_ble_eq_true rfl) ?_
  refine ab_getsC d_Str_coder_0 (k1 54 rfl rfl) ?_
  refine ab_if_eq (tgt := 13) d_Str_coder_3 (by decide) (fun q1 => ?_) (fun q1 => ?_)
  · rw [if_pos q1] at hF
    refine ab_iconst (v := 1) d_Str_coder_13 (by decide) ?_
    exact ab_zret d_Str_coder_14 rfl rfl (Nat.le_refl _) (Nat.le_refl _) (by have hr := Option.some.inj hF; subst hr; exact ⟨rfl, rfl⟩)
  · rw [if_neg q1] at hF
    refine ab_aload_n d_Str_coder_6 rfl rfl rfl ?_
    refine ab_getKc d_Str_coder_7 (by decide) (k4 228 rfl rfl) ?_
    refine ab_goto (tgt := 14) d_Str_coder_10 (by decide) ?_
    exact ab_zret d_Str_coder_14 rfl rfl (Nat.le_refl _) (Nat.le_refl _) (by have hr := Option.some.inj hF; subst hr; exact ⟨rfl, rfl⟩)
def F_Str_length_K0 (N : Nat)  (H : Hp) : Option (Int32 × Hp) :=
    bC (F_Str_coder_K0 N  H) fun v2 H3 =>
    some ((214 : Int32) >>> (v2 &&& 31), H3)
set_option maxRecDepth 20000 in
set_option maxHeartbeats 2000000 in
theorem m_Str_length_K0 {N : Nat}  {H : Hp} {r : Int32 × Hp} (hF : F_Str_length_K0 N  H = some r) : Sa H r.2 := by
  unfold F_Str_length_K0 at hF
  have hm := Sa.rf H
  obtain ⟨v5, H6, z4, hG⟩ := bC_s hF; clear hF
  replace hm : Sa H H6 := hm.tr (m_Str_coder_K0 z4)
  have hr := Option.some.inj hG; subst hr
  exact hm
set_option maxRecDepth 20000 in
set_option maxHeartbeats 2000000 in
theorem k_Str_length_K0 {N : Nat}  {H : Hp} {r : Int32 × Hp} (hF : F_Str_length_K0 N  H = some r) : ab_M y_Str_length { frames := 1, cells := 0, slots := 0, locals := 20 } [.float 0] (hpw H) (po (.returned (some (.int r.1))) r.2) := by
  unfold F_Str_length_K0 at hF
  refine ab_of2 (lv := [some (.float 0)]) 0 rfl (by decide +kernel) (Nat.le_of_ble_eq_true rfl) ?_
  refine ab_aload_n d_Str_length_0 rfl rfl rfl ?_
  refine ab_getKv (k1 := 100) d_Str_length_1 (by decide) (by decide) (k4 227 rfl rfl) ?_
  refine ab_alenK (k0 := 0) (v := 214) d_Str_length_4 (by decide) (by decide) (by decide) ?_
  refine ab_aload_n d_Str_length_5 rfl rfl rfl ?_
  obtain ⟨v2, H3, z1, hG⟩ := bC_s hF; clear hF
  refine hp_callVK_a (k0 := 0) (v := .int v2) (H1 := H3) (As := []) (rest := [.int 214]) d_Str_length_6 (by decide) (k_Str_coder_K0 z1) (ab_mkC s_Str_coder (Nat.le_of_ble_eq_true rfl) (Nat.le_of_ble_eq_true rfl) (Nat.le_refl 0) (Nat.le_refl 0)) (k1 50 rfl rfl) i_Str_coder v_Str_coder rfl (Nat.le_of_ble_eq_true rfl) ?_
  have s_1 : Sa H H3 := (m_Str_coder_K0 z1)
  refine ab_ishr d_Str_length_9 ?_
  exact ab_iret d_Str_length_10 rfl (Nat.le_refl _) (Nat.le_refl _) (by have hr := Option.some.inj hG; subst hr; exact ⟨rfl, rfl⟩)
def F_Str_isLatin1_K0 (N : Nat)  (H : Hp) : Option (Int32 × Hp) :=
    if (1 : Int32) = (0 : Int32) then
    some (0, H)
    else
    if (0 : Int32) = (0 : Int32) then
    some (1, H)
    else
    some (0, H)
set_option maxRecDepth 20000 in
set_option maxHeartbeats 2000000 in
theorem m_Str_isLatin1_K0 {N : Nat}  {H : Hp} {r : Int32 × Hp} (hF : F_Str_isLatin1_K0 N  H = some r) : Sa H r.2 := by
  unfold F_Str_isLatin1_K0 at hF
  have hm := Sa.rf H
  rcases ite_s hF with ⟨q_1, hG⟩ | ⟨q_1, hG⟩
  · clear hF
    have hr := Option.some.inj hG; subst hr
    exact hm
  · clear hF
    rcases ite_s hG with ⟨q_2, hF⟩ | ⟨q_2, hF⟩
    · clear hG
      have hr := Option.some.inj hF; subst hr
      exact hm
    · clear hG
      have hr := Option.some.inj hF; subst hr
      exact hm
set_option maxRecDepth 20000 in
set_option maxHeartbeats 2000000 in
theorem k_Str_isLatin1_K0 {N : Nat}  {H : Hp} {r : Int32 × Hp} (hF : F_Str_isLatin1_K0 N  H = some r) : ab_M y_Str_isLatin1 { frames := 0, cells := 0, slots := 0, locals := 0 } [.float 0] (hpw H) (po (.returned (some (.int r.1))) r.2) := by
  unfold F_Str_isLatin1_K0 at hF
  refine ab_of2 (lv := [some (.float 0)]) 0 rfl (by decide +kernel) (Nat.le_of_ble_eq_true rfl) ?_
  refine ab_getsC d_Str_isLatin1_0 (k1 54 rfl rfl) ?_
  refine ab_if_eq (tgt := 17) d_Str_isLatin1_3 (by decide) (fun q1 => ?_) (fun q1 => ?_)
  · rw [if_pos q1] at hF
    refine ab_iconst (v := 0) d_Str_isLatin1_17 (by decide) ?_
    exact ab_zret d_Str_isLatin1_18 rfl rfl (Nat.le_refl _) (Nat.le_refl _) (by have hr := Option.some.inj hF; subst hr; exact ⟨rfl, rfl⟩)
  · rw [if_neg q1] at hF
    refine ab_aload_n d_Str_isLatin1_6 rfl rfl rfl ?_
    refine ab_getKc d_Str_isLatin1_7 (by decide) (k4 228 rfl rfl) ?_
    refine ab_if_ne (tgt := 17) d_Str_isLatin1_10 (by decide) (fun q2 => ?_) (fun q2 => ?_)
    · rw [if_neg q2] at hF
      refine ab_iconst (v := 0) d_Str_isLatin1_17 (by decide) ?_
      exact ab_zret d_Str_isLatin1_18 rfl rfl (Nat.le_refl _) (Nat.le_refl _) (by have hr := Option.some.inj hF; subst hr; exact ⟨rfl, rfl⟩)
    · rw [if_pos q2] at hF
      refine ab_iconst (v := 1) d_Str_isLatin1_13 (by decide) ?_
      refine ab_goto (tgt := 18) d_Str_isLatin1_14 (by decide) ?_
      exact ab_zret d_Str_isLatin1_18 rfl rfl (Nat.le_refl _) (Nat.le_refl _) (by have hr := Option.some.inj hF; subst hr; exact ⟨rfl, rfl⟩)
def F_SL_charAt_K100 (N : Nat) (p1 : Int32) (H : Hp) : Option (Int32 × Hp) :=
    bC (F_Str_checkIndex N p1 (214 : Int32) H) fun v2 H3 =>
    ck (inb p1 214) <|
    bnd (((ab_byt.getD 0 []).getD (p1).toNatClampNeg 0)) fun x5 =>
    bnd (((((x5 &&& (255 : Int32)) : Int32).toUInt32 % 65536).toInt32)) fun x6 =>
    ck (x6.toUInt32.toUInt16.toUInt32.toInt32 = x6) <|
    some (x6, H3)
set_option maxRecDepth 20000 in
set_option maxHeartbeats 2000000 in
theorem m_SL_charAt_K100 {N : Nat} {p1 : Int32} {H : Hp} {r : Int32 × Hp} (hF : F_SL_charAt_K100 N p1 H = some r) : Sa H r.2 := by
  unfold F_SL_charAt_K100 at hF
  have hm := Sa.rf H
  obtain ⟨v9, H10, z8, hG⟩ := bC_s hF; clear hF
  replace hm : Sa H H10 := hm.tr (m_Str_checkIndex z8)
  obtain ⟨q11, hF⟩ := ck_s hG; clear hG
  obtain ⟨x12, -, hG⟩ := bnd_g hF; clear hF
  obtain ⟨x13, -, hF⟩ := bnd_g hG; clear hG
  obtain ⟨q14, hG⟩ := ck_s hF; clear hF
  have hr := Option.some.inj hG; subst hr
  exact hm
set_option maxRecDepth 20000 in
set_option maxHeartbeats 2000000 in
theorem k_SL_charAt_K100 {N : Nat} {p1 : Int32} {H : Hp} {r : Int32 × Hp} (hF : F_SL_charAt_K100 N p1 H = some r) : ab_M y_SL_charAt { frames := 2, cells := 0, slots := 0, locals := 43 } [.float 100, .int p1] (hpw H) (po (.returned (some (.int r.1))) r.2) := by
  unfold F_SL_charAt_K100 at hF
  refine ab_of2 (lv := [some (.float 100), some (.int p1)]) 0 rfl (by decide +kernel) (Nat.le_of_ble_eq_true rfl) ?_
  refine ab_iload_n d_SL_charAt_0 rfl rfl ?_
  refine ab_aload_n d_SL_charAt_1 rfl rfl rfl ?_
  refine ab_alenK (k0 := 0) (v := 214) d_SL_charAt_2 (by decide) (by decide) (by decide) ?_
  obtain ⟨v2, H3, z1, hG⟩ := bC_s hF; clear hF
  refine hp_callS_v (H1 := H3) (As := [.int p1, .int 214]) (rest := []) d_SL_charAt_3 (k_Str_checkIndex z1) (ab_mkC s_Str_checkIndex (Nat.le_of_ble_eq_true rfl) (Nat.le_of_ble_eq_true rfl) (Nat.le_refl 0) (Nat.le_refl 0)) (k1 67 rfl rfl) t_Str_checkIndex rfl (Nat.le_of_ble_eq_true rfl) ?_
  have s_1 : Sa H H3 := (m_Str_checkIndex z1)
  refine ab_aload_n d_SL_charAt_6 rfl rfl rfl ?_
  refine ab_iload_n d_SL_charAt_7 rfl rfl ?_
  obtain ⟨q4, hF⟩ := ck_s hG; clear hG
  refine ab_baldK (k0 := 0) d_SL_charAt_8 (by decide) (by decide) q4 rfl ?_
  refine ab_topi (fun x5 ex5 => ?_)
  replace hF := bnd_s ex5 hF
  refine ab_sipush (v := 255) d_SL_charAt_9 (by decide) ?_
  refine ab_iand d_SL_charAt_12 ?_
  refine ab_i2c d_SL_charAt_13 ?_
  refine ab_topi (fun x6 ex6 => ?_)
  replace hF := bnd_s ex6 hF
  obtain ⟨q7, hG⟩ := ck_s hF; clear hF
  exact ab_zret d_SL_charAt_14 rfl (congrArg Value.int q7) (Nat.le_refl _) (Nat.le_refl _) (by have hr := Option.some.inj hG; subst hr; exact ⟨rfl, rfl⟩)
def F_Str_charAt_K0 (N : Nat) (p1 : Int32) (H : Hp) : Option (Int32 × Hp) :=
    bC (F_Str_isLatin1_K0 N  H) fun v2 H3 =>
    if v2 = (0 : Int32) then
    none
    else
    bC (F_SL_charAt_K100 N p1 H3) fun v6 H7 =>
    ck (v6.toUInt32.toUInt16.toUInt32.toInt32 = v6) <|
    some (v6, H7)
set_option maxRecDepth 20000 in
set_option maxHeartbeats 2000000 in
theorem m_Str_charAt_K0 {N : Nat} {p1 : Int32} {H : Hp} {r : Int32 × Hp} (hF : F_Str_charAt_K0 N p1 H = some r) : Sa H r.2 := by
  unfold F_Str_charAt_K0 at hF
  have hm := Sa.rf H
  obtain ⟨v10, H11, z9, hG⟩ := bC_s hF; clear hF
  replace hm : Sa H H11 := hm.tr (m_Str_isLatin1_K0 z9)
  rcases ite_s hG with ⟨q_4, hF⟩ | ⟨q_4, hF⟩
  · clear hG
    cases hF
  · clear hG
    obtain ⟨v14, H15, z13, hG⟩ := bC_s hF; clear hF
    replace hm : Sa H H15 := hm.tr (m_SL_charAt_K100 z13)
    obtain ⟨q16, hF⟩ := ck_s hG; clear hG
    have hr := Option.some.inj hF; subst hr
    exact hm
set_option maxRecDepth 20000 in
set_option maxHeartbeats 2000000 in
theorem k_Str_charAt_K0 {N : Nat} {p1 : Int32} {H : Hp} {r : Int32 × Hp} (hF : F_Str_charAt_K0 N p1 H = some r) : ab_M y_Str_charAt { frames := 3, cells := 0, slots := 0, locals := 64 } [.float 0, .int p1] (hpw H) (po (.returned (some (.int r.1))) r.2) := by
  unfold F_Str_charAt_K0 at hF
  refine ab_of2 (lv := [some (.float 0), some (.int p1)]) 0 rfl (by decide +kernel) (Nat.le_of_ble_eq_true rfl) ?_
  refine ab_aload_n d_Str_charAt_0 rfl rfl rfl ?_
  obtain ⟨v2, H3, z1, hG⟩ := bC_s hF; clear hF
  refine hp_callVK_a (k0 := 0) (v := .int v2) (H1 := H3) (As := []) (rest := []) d_Str_charAt_1 (by decide) (k_Str_isLatin1_K0 z1) (ab_mkC s_Str_isLatin1 (Nat.le_of_ble_eq_true rfl) (Nat.le_of_ble_eq_true rfl) (Nat.le_refl 0) (Nat.le_refl 0)) (k1 60 rfl rfl) i_Str_isLatin1 v_Str_isLatin1 rfl (Nat.le_of_ble_eq_true rfl) ?_
  have s_1 : Sa H H3 := (m_Str_isLatin1_K0 z1)
  refine ab_if_eq (tgt := 16) d_Str_charAt_4 (by decide) (fun q4 => ?_) (fun q4 => ?_)
  · rw [if_pos q4] at hG
    refine ab_aload_n d_Str_charAt_16 rfl rfl rfl ?_
    refine ab_getKv (k1 := 100) d_Str_charAt_17 (by decide) (by decide) (k4 227 rfl rfl) ?_
    refine ab_iload_n d_Str_charAt_20 rfl rfl ?_
    cases hG
  · rw [if_neg q4] at hG
    refine ab_aload_n d_Str_charAt_7 rfl rfl rfl ?_
    refine ab_getKv (k1 := 100) d_Str_charAt_8 (by decide) (by decide) (k4 227 rfl rfl) ?_
    refine ab_iload_n d_Str_charAt_11 rfl rfl ?_
    obtain ⟨v6, H7, z5, hF⟩ := bC_s hG; clear hG
    refine hp_callS_a (v := .int v6) (H1 := H7) (As := [.float 100, .int p1]) (rest := []) d_Str_charAt_12 (k_SL_charAt_K100 z5) (ab_mkC s_SL_charAt (Nat.le_of_ble_eq_true rfl) (Nat.le_of_ble_eq_true rfl) (Nat.le_refl 0) (Nat.le_refl 0)) (k1 64 rfl rfl) t_SL_charAt rfl (Nat.le_of_ble_eq_true rfl) ?_
    have s_2 : Sa H H7 := (s_1).tr (m_SL_charAt_K100 z5)
    obtain ⟨q8, hG⟩ := ck_s hF; clear hF
    exact ab_zret d_Str_charAt_15 rfl (congrArg Value.int q8) (Nat.le_refl _) (Nat.le_refl _) (by have hr := Option.some.inj hG; subst hr; exact ⟨rfl, rfl⟩)
def B_Lexer_init_99 (N : Nat) (p0 : Nat) (kq61 : Int32 → Int32 → Hp → Option (Unit × Hp)) (l1 : Int32) (l2 : Int32) (H : Hp) : Option (Unit × Hp) :=
    kq61 l1 (l2 + 1) H
set_option maxRecDepth 20000 in
set_option maxHeartbeats 2000000 in
theorem mB_Lexer_init_99 {N : Nat} {p0 : Nat} {kq61 : Int32 → Int32 → Hp → Option (Unit × Hp)} (hm61 : ∀ (l1 : Int32) (l2 : Int32) (H : Hp) (r : Unit × Hp), kq61 l1 l2 H = some r → Mo H r.2) {l1 : Int32} {l2 : Int32} {H : Hp} {r : Unit × Hp} (hF : B_Lexer_init_99 N p0 kq61 l1 l2 H = some r) : Mo H r.2 := by
  unfold B_Lexer_init_99 at hF
  have hm := Mo.rf H
  exact hm.tr (hm61 l1 (l2 + 1) H r hF)
set_option maxRecDepth 20000 in
set_option maxHeartbeats 2000000 in
theorem kB_Lexer_init_99 {N : Nat} {p0 : Nat} {kq61 : Int32 → Int32 → Hp → Option (Unit × Hp)} {c0 s0 C Sl : Nat} (hm61 : ∀ (l1 : Int32) (l2 : Int32) (H : Hp) (r : Unit × Hp), kq61 l1 l2 H = some r → Mo H r.2) (hk61 : ∀ (l1 : Int32) (l2 : Int32) (H : Hp) (r : Unit × Hp), kq61 l1 l2 H = some r → c0 ≤ H.sh.length → s0 ≤ H.sl → H.sh.length ≤ c0 + C → H.sl ≤ s0 + Sl → r.2.sh.length ≤ c0 + C → r.2.sl ≤ s0 + Sl → ab_V y_Lexer_init { frames := 4, cells := C, slots := Sl, locals := 85 } (po (.returned none) r.2) C Sl (H.sh.length - c0) (H.sl - s0) 61 [some (.ref p0), some (.int l1), some (.int l2)] [] (hpw H)) {l1 : Int32} {l2 : Int32} {H : Hp} {r : Unit × Hp} (hF : B_Lexer_init_99 N p0 kq61 l1 l2 H = some r) (hc0 : c0 ≤ H.sh.length) (hs0 : s0 ≤ H.sl) (hcc : H.sh.length ≤ c0 + C) (hss : H.sl ≤ s0 + Sl) (hC : r.2.sh.length ≤ c0 + C) (hS : r.2.sl ≤ s0 + Sl) : ab_V y_Lexer_init { frames := 4, cells := C, slots := Sl, locals := 85 } (po (.returned none) r.2) C Sl (H.sh.length - c0) (H.sl - s0) 99 [some (.ref p0), some (.int l1), some (.int l2)] [] (hpw H) := by
  unfold B_Lexer_init_99 at hF
  refine ab_iinc (v := l2 + 1) (lv' := [some (.ref p0), some (.int l1), some (.int (l2 + 1))]) d_Lexer_init_99 rfl rfl (by decide) rfl ?_
  refine ab_goto (tgt := 61) d_Lexer_init_102 (by decide) ?_
  exact hk61 l1 (l2 + 1) H r hF hc0 hs0 hcc hss hC hS
def B_Lexer_init_61 (N : Nat) (p0 : Nat) : Nat → Int32 → Int32 → Hp → Option (Unit × Hp)
  | 0, _, _, _ => none
  | n + 1, l1, l2, H =>
    bC (F_Str_length_K0 N  H) fun v33 H34 =>
    if v33 ≤ l2 then
    some ((), H34)
    else
    bC (F_Str_charAt_K0 N l2 H34) fun v37 H38 =>
    if v37 = (32 : Int32) then
    if (41 : Int32) ≤ l1 then
    B_Lexer_init_99 N p0 (fun l1 l2 H => B_Lexer_init_61 N p0 n l1 l2 H) l1 l2 H38
    else
    ck (H38.sh[p0]? = some (1, 0)) <|
    rf (H38.P p0 12) fun a42 =>
    ar H38 100 a42 fun n44 =>
    ck (inb (l1 + 1) n44) <|
    bnd (H38.sD a42 ((l1 + 1)).toNatClampNeg (l2 + (1 : Int32))) fun H47 =>
    B_Lexer_init_99 N p0 (fun l1 l2 H => B_Lexer_init_61 N p0 n l1 l2 H) (l1 + 1) l2 H47
    else
    B_Lexer_init_99 N p0 (fun l1 l2 H => B_Lexer_init_61 N p0 n l1 l2 H) l1 l2 H38
termination_by structural n => n
set_option maxRecDepth 20000 in
set_option maxHeartbeats 2000000 in
theorem mB_Lexer_init_61 {N : Nat} {p0 : Nat} : ∀ (n : Nat) (l1 : Int32) (l2 : Int32) (H : Hp) (r : Unit × Hp), B_Lexer_init_61 N p0 n l1 l2 H = some r → Mo H r.2 := by
  intro n
  induction n with
  | zero => intro l1 l2 H r hF; rw [B_Lexer_init_61] at hF; cases hF
  | succ n ih =>
    intro l1 l2 H r hF
    rw [B_Lexer_init_61] at hF
    have hm := Mo.rf H
    obtain ⟨v49, H50, z48, hG⟩ := bC_s hF; clear hF
    replace hm : Mo H H50 := hm.tr ((m_Str_length_K0 z48)).mo
    rcases ite_s hG with ⟨q_19, hF⟩ | ⟨q_19, hF⟩
    · clear hG
      have hr := Option.some.inj hF; subst hr
      exact hm
    · clear hG
      obtain ⟨v53, H54, z52, hG⟩ := bC_s hF; clear hF
      replace hm : Mo H H54 := hm.tr ((m_Str_charAt_K0 z52)).mo
      rcases ite_s hG with ⟨q_20, hF⟩ | ⟨q_20, hF⟩
      · clear hG
        rcases ite_s hF with ⟨q_21, hG⟩ | ⟨q_21, hG⟩
        · clear hF
          exact hm.tr (mB_Lexer_init_99 ih hG)
        · clear hF
          obtain ⟨q57, hF⟩ := ck_s hG; clear hG
          obtain ⟨a58, e59, hG⟩ := rf_s hF; clear hF
          obtain ⟨n60, q61, hF⟩ := ar_s hG; clear hG
          obtain ⟨q62, hG⟩ := ck_s hF; clear hF
          obtain ⟨H63, eH63, hF⟩ := bnd_g hG; clear hG
          replace hm : Mo H H63 := by rw [eH63]; exact hm
          exact hm.tr (mB_Lexer_init_99 ih hF)
      · clear hG
        exact hm.tr (mB_Lexer_init_99 ih hF)
set_option maxRecDepth 20000 in
set_option maxHeartbeats 2000000 in
theorem kB_Lexer_init_61 {N : Nat} {p0 : Nat} {c0 s0 C Sl : Nat} : ∀ (n : Nat) (l1 : Int32) (l2 : Int32) (H : Hp) (r : Unit × Hp), B_Lexer_init_61 N p0 n l1 l2 H = some r → c0 ≤ H.sh.length → s0 ≤ H.sl → H.sh.length ≤ c0 + C → H.sl ≤ s0 + Sl → r.2.sh.length ≤ c0 + C → r.2.sl ≤ s0 + Sl → ab_V y_Lexer_init { frames := 4, cells := C, slots := Sl, locals := 85 } (po (.returned none) r.2) C Sl (H.sh.length - c0) (H.sl - s0) 61 [some (.ref p0), some (.int l1), some (.int l2)] [] (hpw H) := by
  intro n
  induction n with
  | zero => intro l1 l2 H r hF; rw [B_Lexer_init_61] at hF; cases hF
  | succ n ih =>
    intro l1 l2 H r hF hc0 hs0 hcc hss hC hS
    rw [B_Lexer_init_61] at hF
    refine ab_iload_n d_Lexer_init_61 rfl rfl ?_
    refine ab_ldcS (k0 := 0) d_Lexer_init_62 (List.mem_of_getElem? (i := 0) rfl) rfl rfl rfl ?_
    obtain ⟨v33, H34, z32, hG⟩ := bC_s hF; clear hF
    refine hp_callVK_a (k0 := 0) (v := .int v33) (H1 := H34) (As := []) (rest := [.int l2]) d_Lexer_init_64 (by decide) (k_Str_length_K0 z32) (ab_mkC s_Str_length (Nat.le_of_ble_eq_true rfl) (Nat.le_of_ble_eq_true rfl) (show (H.sh.length - c0) + 0 ≤ C from by omega) (show (H.sl - s0) + 0 ≤ Sl from by omega)) (k1 46 rfl rfl) i_Str_length v_Str_length rfl (Nat.le_of_ble_eq_true rfl) ?_
    have s_15 : Sa H H34 := (m_Str_length_K0 z32)
    refine ab_widen (cells' := H.sh.length - c0) (slots' := H.sl - s0) (by show (H.sh.length - c0) + 0 ≤ _; omega) (by show (H.sl - s0) + 0 ≤ _; omega) ?_
    refine ab_icmp_ge (tgt := 105) d_Lexer_init_67 (by decide) (fun q35 => ?_) (fun q35 => ?_)
    · rw [if_pos q35] at hG
      exact ab_vret d_Lexer_init_105 rfl (by show _ ≤ C; omega) (by show _ ≤ Sl; omega) (by have hr := Option.some.inj hG; subst hr; exact ⟨rfl, rfl⟩)
    · rw [if_neg q35] at hG
      refine ab_ldcS (k0 := 0) d_Lexer_init_70 (List.mem_of_getElem? (i := 0) rfl) rfl rfl rfl ?_
      refine ab_iload_n d_Lexer_init_72 rfl rfl ?_
      obtain ⟨v37, H38, z36, hF⟩ := bC_s hG; clear hG
      refine ab_widen (cells' := H34.sh.length - c0) (slots' := H34.sl - s0) (by rw [(s_15).1]; exact Nat.le_refl _) (by rw [(s_15).2]; exact Nat.le_refl _) ?_
      have b_16e := congrArg List.length (s_15).1
      have b_16f := (s_15).2
      refine hp_callVK_a (k0 := 0) (v := .int v37) (H1 := H38) (As := [.int l2]) (rest := []) d_Lexer_init_73 (by decide) (k_Str_charAt_K0 z36) (ab_mkC s_Str_charAt (Nat.le_of_ble_eq_true rfl) (Nat.le_of_ble_eq_true rfl) (show (H34.sh.length - c0) + 0 ≤ C from by omega) (show (H34.sl - s0) + 0 ≤ Sl from by omega)) (k1 56 rfl rfl) i_Str_charAt v_Str_charAt rfl (Nat.le_of_ble_eq_true rfl) ?_
      have s_17 : Sa H H38 := (s_15).tr (m_Str_charAt_K0 z36)
      refine ab_widen (cells' := H.sh.length - c0) (slots' := H.sl - s0) (by show (H34.sh.length - c0) + 0 ≤ _; omega) (by show (H34.sl - s0) + 0 ≤ _; omega) ?_
      clear b_16e b_16f
      refine ab_bipush (v := 32) d_Lexer_init_76 (by decide) ?_
      refine ab_icmp_ne (tgt := 99) d_Lexer_init_78 (by decide) (fun q39 => ?_) (fun q39 => ?_)
      · rw [if_neg q39] at hF
        refine ab_widen (cells' := H38.sh.length - c0) (slots' := H38.sl - s0) (by rw [(s_17).1]; exact Nat.le_refl _) (by rw [(s_17).2]; exact Nat.le_refl _) ?_
        exact kB_Lexer_init_99 (mB_Lexer_init_61 n) ih hF (by rw [(s_17).1]; exact hc0) (by rw [(s_17).2]; exact hs0) (by rw [(s_17).1]; exact hcc) (by rw [(s_17).2]; exact hss) hC hS
      · rw [if_pos q39] at hF
        refine ab_iload_n d_Lexer_init_81 rfl rfl ?_
        refine ab_bipush (v := 41) d_Lexer_init_82 (by decide) ?_
        refine ab_icmp_ge (tgt := 99) d_Lexer_init_84 (by decide) (fun q40 => ?_) (fun q40 => ?_)
        · rw [if_pos q40] at hF
          refine ab_widen (cells' := H38.sh.length - c0) (slots' := H38.sl - s0) (by rw [(s_17).1]; exact Nat.le_refl _) (by rw [(s_17).2]; exact Nat.le_refl _) ?_
          exact kB_Lexer_init_99 (mB_Lexer_init_61 n) ih hF (by rw [(s_17).1]; exact hc0) (by rw [(s_17).2]; exact hs0) (by rw [(s_17).1]; exact hcc) (by rw [(s_17).2]; exact hss) hC hS
        · rw [if_neg q40] at hF
          refine ab_iinc (v := l1 + 1) (lv' := [some (.ref p0), some (.int (l1 + 1)), some (.int l2)]) d_Lexer_init_87 rfl rfl (by decide) rfl ?_
          refine ab_aload_n d_Lexer_init_90 rfl rfl rfl ?_
          obtain ⟨q41, hG⟩ := ck_s hF; clear hF
          rw [(s_17).1] at q41
          obtain ⟨a42, e43, hF⟩ := rf_s hG; clear hG
          refine hp_getR (f := 12) d_Lexer_init_91 (by rw [(s_17).1]; exact q41) (by decide) rfl (by decide) (k1 114 rfl rfl) rfl e43 ?_
          refine ab_iload_n d_Lexer_init_94 rfl rfl ?_
          refine ab_iload_n d_Lexer_init_95 rfl rfl ?_
          refine ab_iconst (v := 1) d_Lexer_init_96 (by decide) ?_
          refine ab_iadd d_Lexer_init_97 ?_
          obtain ⟨n44, q45, hG⟩ := ar_s hF; clear hF
          rw [(s_17).1] at q45
          obtain ⟨q46, hF⟩ := ck_s hG; clear hG
          refine hp_iast d_Lexer_init_98 tI (by rw [(s_17).1]; exact q45) q46 ?_
          refine hp_gen (fun H47 eH47 => ?_)
          replace hF := bnd_s eH47 hF
          have s_18 : Sa H H47 := by rw [eH47]; exact s_17
          refine ab_widen (cells' := H47.sh.length - c0) (slots' := H47.sl - s0) (by rw [(s_18).1]; exact Nat.le_refl _) (by rw [(s_18).2]; exact Nat.le_refl _) ?_
          exact kB_Lexer_init_99 (mB_Lexer_init_61 n) ih hF (by rw [(s_18).1]; exact hc0) (by rw [(s_18).2]; exact hs0) (by rw [(s_18).1]; exact hcc) (by rw [(s_18).2]; exact hss) hC hS
def F_Lexer_init (N : Nat) (p0 : Nat) (H : Hp) : Option (Unit × Hp) :=
    ck (¬ (6000 : Int32) < 0) <|
    ck (((6000 : Int32)).toNatClampNeg * 1 ≤ 536870912) <|
    bnd (H.nw (101, ((6000 : Int32)).toNatClampNeg) ((6000 : Int32)).toNatClampNeg) fun H3 =>
    bnd H.sh.length fun a4 =>
    ck (H3.sh[p0]? = some (1, 0)) <|
    bnd (H3.sP p0 0 (.ref a4)) fun H6 =>
    ck (¬ (6001 : Int32) < 0) <|
    ck (((6001 : Int32)).toNatClampNeg * 4 ≤ 536870912) <|
    bnd (H6.nw (100, ((6001 : Int32)).toNatClampNeg) ((6001 : Int32)).toNatClampNeg) fun H9 =>
    bnd H6.sh.length fun a10 =>
    bnd (H9.sP p0 6 (.ref a10)) fun H11 =>
    ck (¬ (6001 : Int32) < 0) <|
    ck (((6001 : Int32)).toNatClampNeg * 4 ≤ 536870912) <|
    bnd (H11.nw (100, ((6001 : Int32)).toNatClampNeg) ((6001 : Int32)).toNatClampNeg) fun H14 =>
    bnd H11.sh.length fun a15 =>
    bnd (H14.sP p0 7 (.ref a15)) fun H16 =>
    ck (¬ (6001 : Int32) < 0) <|
    ck (((6001 : Int32)).toNatClampNeg * 4 ≤ 536870912) <|
    bnd (H16.nw (100, ((6001 : Int32)).toNatClampNeg) ((6001 : Int32)).toNatClampNeg) fun H19 =>
    bnd H16.sh.length fun a20 =>
    bnd (H19.sP p0 8 (.ref a20)) fun H21 =>
    ck (¬ (6001 : Int32) < 0) <|
    ck (((6001 : Int32)).toNatClampNeg * 1 ≤ 536870912) <|
    bnd (H21.nw (102, ((6001 : Int32)).toNatClampNeg) ((6001 : Int32)).toNatClampNeg) fun H24 =>
    bnd H21.sh.length fun a25 =>
    bnd (H24.sP p0 9 (.ref a25)) fun H26 =>
    ck (¬ (42 : Int32) < 0) <|
    ck (((42 : Int32)).toNatClampNeg * 4 ≤ 536870912) <|
    bnd (H26.nw (100, ((42 : Int32)).toNatClampNeg) ((42 : Int32)).toNatClampNeg) fun H29 =>
    bnd H26.sh.length fun a30 =>
    bnd (H29.sP p0 12 (.ref a30)) fun H31 =>
    B_Lexer_init_61 N p0 N 0 0 H31
set_option maxRecDepth 20000 in
set_option maxHeartbeats 2000000 in
theorem m_Lexer_init {N : Nat} {p0 : Nat} {H : Hp} {r : Unit × Hp} (hF : F_Lexer_init N p0 H = some r) : Mo H r.2 := by
  unfold F_Lexer_init at hF
  have hm := Mo.rf H
  obtain ⟨q32, hG⟩ := ck_s hF; clear hF
  obtain ⟨q33, hF⟩ := ck_s hG; clear hG
  obtain ⟨H34, eH34, hG⟩ := bnd_g hF; clear hF
  replace hm : Mo H H34 := hm.tr (by rw [eH34]; exact Mo.nw _ _ _)
  obtain ⟨a35, -, hF⟩ := bnd_g hG; clear hG
  obtain ⟨q36, hG⟩ := ck_s hF; clear hF
  obtain ⟨H37, eH37, hF⟩ := bnd_g hG; clear hG
  replace hm : Mo H H37 := by rw [eH37]; exact hm
  obtain ⟨q38, hG⟩ := ck_s hF; clear hF
  obtain ⟨q39, hF⟩ := ck_s hG; clear hG
  obtain ⟨H40, eH40, hG⟩ := bnd_g hF; clear hF
  replace hm : Mo H H40 := hm.tr (by rw [eH40]; exact Mo.nw _ _ _)
  obtain ⟨a41, -, hF⟩ := bnd_g hG; clear hG
  obtain ⟨H42, eH42, hG⟩ := bnd_g hF; clear hF
  replace hm : Mo H H42 := by rw [eH42]; exact hm
  obtain ⟨q43, hF⟩ := ck_s hG; clear hG
  obtain ⟨q44, hG⟩ := ck_s hF; clear hF
  obtain ⟨H45, eH45, hF⟩ := bnd_g hG; clear hG
  replace hm : Mo H H45 := hm.tr (by rw [eH45]; exact Mo.nw _ _ _)
  obtain ⟨a46, -, hG⟩ := bnd_g hF; clear hF
  obtain ⟨H47, eH47, hF⟩ := bnd_g hG; clear hG
  replace hm : Mo H H47 := by rw [eH47]; exact hm
  obtain ⟨q48, hG⟩ := ck_s hF; clear hF
  obtain ⟨q49, hF⟩ := ck_s hG; clear hG
  obtain ⟨H50, eH50, hG⟩ := bnd_g hF; clear hF
  replace hm : Mo H H50 := hm.tr (by rw [eH50]; exact Mo.nw _ _ _)
  obtain ⟨a51, -, hF⟩ := bnd_g hG; clear hG
  obtain ⟨H52, eH52, hG⟩ := bnd_g hF; clear hF
  replace hm : Mo H H52 := by rw [eH52]; exact hm
  obtain ⟨q53, hF⟩ := ck_s hG; clear hG
  obtain ⟨q54, hG⟩ := ck_s hF; clear hF
  obtain ⟨H55, eH55, hF⟩ := bnd_g hG; clear hG
  replace hm : Mo H H55 := hm.tr (by rw [eH55]; exact Mo.nw _ _ _)
  obtain ⟨a56, -, hG⟩ := bnd_g hF; clear hF
  obtain ⟨H57, eH57, hF⟩ := bnd_g hG; clear hG
  replace hm : Mo H H57 := by rw [eH57]; exact hm
  obtain ⟨q58, hG⟩ := ck_s hF; clear hF
  obtain ⟨q59, hF⟩ := ck_s hG; clear hG
  obtain ⟨H60, eH60, hG⟩ := bnd_g hF; clear hF
  replace hm : Mo H H60 := hm.tr (by rw [eH60]; exact Mo.nw _ _ _)
  obtain ⟨a61, -, hF⟩ := bnd_g hG; clear hG
  obtain ⟨H62, eH62, hG⟩ := bnd_g hF; clear hF
  replace hm : Mo H H62 := by rw [eH62]; exact hm
  exact hm.tr (mB_Lexer_init_61 N 0 0 H62 r hG)
set_option maxRecDepth 20000 in
set_option maxHeartbeats 2000000 in
theorem k_Lexer_init {N : Nat} {p0 : Nat} {H : Hp} {r : Unit × Hp} {C Sl : Nat} (hF : F_Lexer_init N p0 H = some r) (hC : r.2.sh.length ≤ H.sh.length + C) (hS : r.2.sl ≤ H.sl + Sl) : ab_M y_Lexer_init { frames := 4, cells := C, slots := Sl, locals := 85 } [.ref p0] (hpw H) (po (.returned none) r.2) := by
  unfold F_Lexer_init at hF
  obtain ⟨c0, e0⟩ : ∃ q, q = H.sh.length := ⟨_, rfl⟩
  obtain ⟨s0, e1⟩ : ∃ q, q = H.sl := ⟨_, rfl⟩
  rw [← e0] at hC
  rw [← e1] at hS
  have hc0 : c0 ≤ H.sh.length := Nat.le_of_eq e0
  have hs0 : s0 ≤ H.sl := Nat.le_of_eq e1
  have hcc : H.sh.length ≤ c0 + C := by omega
  have hss : H.sl ≤ s0 + Sl := by omega
  refine ab_of2 (lv := [some (.ref p0), none, none]) 2 rfl rfl (Nat.le_of_ble_eq_true rfl) ?_
  refine ab_widen (cells' := H.sh.length - c0) (slots' := H.sl - s0) (Nat.zero_le _) (Nat.zero_le _) ?_
  refine ab_aload_n d_Lexer_init_0 rfl rfl rfl ?_
  refine ab_objInit d_Lexer_init_1 (k1 44 rfl rfl) (k1 37 rfl rfl) (k1 38 rfl rfl) (Nat.le_of_ble_eq_true rfl) (Nat.le_of_ble_eq_true rfl) ?_
  refine ab_aload_n d_Lexer_init_4 rfl rfl rfl ?_
  refine ab_sipush (v := 6000) d_Lexer_init_5 (by decide) ?_
  obtain ⟨q1, hG⟩ := ck_s hF; clear hF
  obtain ⟨q2, hF⟩ := ck_s hG; clear hG
  obtain ⟨H3, eH3, hG⟩ := bnd_g hF; clear hF
  obtain ⟨a4, ea4, hF⟩ := bnd_g hG; clear hG
  have m_1 : Mo H H3 := by rw [eH3]; exact Mo.nw _ _ _
  have b_2l := (m_1).len
  have b_2s := (m_1).2
  have b_2c : c0 ≤ H3.sh.length := by omega
  have b_2d : s0 ≤ H3.sl := by omega
  have b_2x : H3.sh.length = H.sh.length + 1 := by rw [eH3]; simp [Hp.nw, mkH_sh]
  have b_2y : H3.sl = H.sl + ((6000 : Int32)).toNatClampNeg := by rw [eH3]; rfl
  obtain ⟨q5, hG⟩ := ck_s hF; clear hF
  obtain ⟨H6, eH6, hF⟩ := bnd_g hG; clear hG
  have jH6 : Mo H3 H6 := by rw [eH6]; exact Mo.rf _
  obtain ⟨q7, hG⟩ := ck_s hF; clear hF
  obtain ⟨q8, hF⟩ := ck_s hG; clear hG
  obtain ⟨H9, eH9, hG⟩ := bnd_g hF; clear hF
  obtain ⟨a10, ea10, hF⟩ := bnd_g hG; clear hG
  have jH9 : Mo H6 H9 := by rw [eH9]; exact Mo.nw _ _ _
  obtain ⟨H11, eH11, hG⟩ := bnd_g hF; clear hF
  have jH11 : Mo H9 H11 := by rw [eH11]; exact Mo.rf _
  obtain ⟨q12, hF⟩ := ck_s hG; clear hG
  obtain ⟨q13, hG⟩ := ck_s hF; clear hF
  obtain ⟨H14, eH14, hF⟩ := bnd_g hG; clear hG
  obtain ⟨a15, ea15, hG⟩ := bnd_g hF; clear hF
  have jH14 : Mo H11 H14 := by rw [eH14]; exact Mo.nw _ _ _
  obtain ⟨H16, eH16, hF⟩ := bnd_g hG; clear hG
  have jH16 : Mo H14 H16 := by rw [eH16]; exact Mo.rf _
  obtain ⟨q17, hG⟩ := ck_s hF; clear hF
  obtain ⟨q18, hF⟩ := ck_s hG; clear hG
  obtain ⟨H19, eH19, hG⟩ := bnd_g hF; clear hF
  obtain ⟨a20, ea20, hF⟩ := bnd_g hG; clear hG
  have jH19 : Mo H16 H19 := by rw [eH19]; exact Mo.nw _ _ _
  obtain ⟨H21, eH21, hG⟩ := bnd_g hF; clear hF
  have jH21 : Mo H19 H21 := by rw [eH21]; exact Mo.rf _
  obtain ⟨q22, hF⟩ := ck_s hG; clear hG
  obtain ⟨q23, hG⟩ := ck_s hF; clear hF
  obtain ⟨H24, eH24, hF⟩ := bnd_g hG; clear hG
  obtain ⟨a25, ea25, hG⟩ := bnd_g hF; clear hF
  have jH24 : Mo H21 H24 := by rw [eH24]; exact Mo.nw _ _ _
  obtain ⟨H26, eH26, hF⟩ := bnd_g hG; clear hG
  have jH26 : Mo H24 H26 := by rw [eH26]; exact Mo.rf _
  obtain ⟨q27, hG⟩ := ck_s hF; clear hF
  obtain ⟨q28, hF⟩ := ck_s hG; clear hG
  obtain ⟨H29, eH29, hG⟩ := bnd_g hF; clear hF
  obtain ⟨a30, ea30, hF⟩ := bnd_g hG; clear hG
  have jH29 : Mo H26 H29 := by rw [eH29]; exact Mo.nw _ _ _
  obtain ⟨H31, eH31, hG⟩ := bnd_g hF; clear hF
  have jH31 : Mo H29 H31 := by rw [eH31]; exact Mo.rf _
  have fH31 : Mo H31 r.2 := by
    have hm := Mo.rf H31
    exact hm.tr (mB_Lexer_init_61 N 0 0 H31 r hG)
  have fH29 : Mo H29 r.2 := jH31.tr fH31
  have fH26 : Mo H26 r.2 := jH29.tr fH29
  have fH24 : Mo H24 r.2 := jH26.tr fH26
  have fH21 : Mo H21 r.2 := jH24.tr fH24
  have fH19 : Mo H19 r.2 := jH21.tr fH21
  have fH16 : Mo H16 r.2 := jH19.tr fH19
  have fH14 : Mo H14 r.2 := jH16.tr fH16
  have fH11 : Mo H11 r.2 := jH14.tr fH14
  have fH9 : Mo H9 r.2 := jH11.tr fH11
  have fH6 : Mo H6 r.2 := jH9.tr fH9
  have fH3 : Mo H3 r.2 := jH6.tr fH6
  have b_2m := (fH3).len
  have b_2n := (fH3).2
  have b_2p : H3.sh.length ≤ c0 + C := by omega
  have b_2q : H3.sl ≤ s0 + Sl := by omega
  refine hp_newa (q := 101) d_Lexer_init_8 rfl (k1 142 rfl rfl) tB (Or.inr (Or.inl rfl)) ⟨by decide, by decide, rfl⟩ rfl q1 q2 (by show _ ≤ C; omega) (by show _ + ((6000 : Int32)).toNatClampNeg ≤ Sl; omega) ?_
  refine ab_widen (cells' := H3.sh.length - c0) (slots' := H3.sl - s0) (by omega) (by show _ + ((6000 : Int32)).toNatClampNeg ≤ _; omega) ?_
  rw [← eH3, ← ea4]
  clear b_2l b_2s b_2x b_2y b_2m b_2n
  refine hp_putFP (v := .ref a4) (f := 0) d_Lexer_init_10 q5 (by decide) rfl (by decide) (k1 94 rfl rfl) rfl rfl rfl rfl (fun _ => rfl) (fun _ => rfl) rfl ?_
  refine hp_genx eH6 ?_
  have s_23 : Sa H3 H6 := by rw [eH6]; exact Sa.rf _
  refine ab_aload_n d_Lexer_init_13 rfl rfl rfl ?_
  refine ab_sipush (v := 6001) d_Lexer_init_14 (by decide) ?_
  have m_24 : Mo H6 H9 := by rw [eH9]; exact Mo.nw _ _ _
  have b_25l := (m_24).len
  have b_25s := (m_24).2
  have b_25e := congrArg List.length (s_23).1
  have b_25f := (s_23).2
  have b_25c : c0 ≤ H9.sh.length := by omega
  have b_25d : s0 ≤ H9.sl := by omega
  have b_25x : H9.sh.length = H6.sh.length + 1 := by rw [eH9]; simp [Hp.nw, mkH_sh]
  have b_25y : H9.sl = H6.sl + ((6001 : Int32)).toNatClampNeg := by rw [eH9]; rfl
  have q_26 := (m_24).get (by rw [(s_23).1]; exact q5)
  have b_25m := (fH9).len
  have b_25n := (fH9).2
  have b_25p : H9.sh.length ≤ c0 + C := by omega
  have b_25q : H9.sl ≤ s0 + Sl := by omega
  refine ab_widen (cells' := H6.sh.length - c0) (slots' := H6.sl - s0) (by rw [(s_23).1]; exact Nat.le_refl _) (by rw [(s_23).2]; exact Nat.le_refl _) ?_
  refine hp_newa (q := 100) d_Lexer_init_17 rfl (k1 143 rfl rfl) tI (Or.inl rfl) ⟨by decide, by decide, rfl⟩ rfl q7 q8 (by show _ ≤ C; omega) (by show _ + ((6001 : Int32)).toNatClampNeg ≤ Sl; omega) ?_
  refine ab_widen (cells' := H9.sh.length - c0) (slots' := H9.sl - s0) (by omega) (by show _ + ((6001 : Int32)).toNatClampNeg ≤ _; omega) ?_
  rw [← eH9, ← ea10]
  clear b_25l b_25s b_25x b_25y b_25m b_25n b_25e b_25f b_2c b_2d b_2p b_2q
  refine hp_putFP (v := .ref a10) (f := 6) d_Lexer_init_19 q_26 (by decide) rfl (by decide) (k1 108 rfl rfl) rfl rfl rfl rfl (fun _ => rfl) (fun _ => rfl) rfl ?_
  refine hp_genx eH11 ?_
  have s_27 : Sa H9 H11 := by rw [eH11]; exact Sa.rf _
  refine ab_aload_n d_Lexer_init_22 rfl rfl rfl ?_
  refine ab_sipush (v := 6001) d_Lexer_init_23 (by decide) ?_
  have m_28 : Mo H11 H14 := by rw [eH14]; exact Mo.nw _ _ _
  have b_29l := (m_28).len
  have b_29s := (m_28).2
  have b_29e := congrArg List.length (s_27).1
  have b_29f := (s_27).2
  have b_29c : c0 ≤ H14.sh.length := by omega
  have b_29d : s0 ≤ H14.sl := by omega
  have b_29x : H14.sh.length = H11.sh.length + 1 := by rw [eH14]; simp [Hp.nw, mkH_sh]
  have b_29y : H14.sl = H11.sl + ((6001 : Int32)).toNatClampNeg := by rw [eH14]; rfl
  have q_30 := (m_28).get (by rw [(s_27).1]; exact q_26)
  have b_29m := (fH14).len
  have b_29n := (fH14).2
  have b_29p : H14.sh.length ≤ c0 + C := by omega
  have b_29q : H14.sl ≤ s0 + Sl := by omega
  refine ab_widen (cells' := H11.sh.length - c0) (slots' := H11.sl - s0) (by rw [(s_27).1]; exact Nat.le_refl _) (by rw [(s_27).2]; exact Nat.le_refl _) ?_
  refine hp_newa (q := 100) d_Lexer_init_26 rfl (k1 143 rfl rfl) tI (Or.inl rfl) ⟨by decide, by decide, rfl⟩ rfl q12 q13 (by show _ ≤ C; omega) (by show _ + ((6001 : Int32)).toNatClampNeg ≤ Sl; omega) ?_
  refine ab_widen (cells' := H14.sh.length - c0) (slots' := H14.sl - s0) (by omega) (by show _ + ((6001 : Int32)).toNatClampNeg ≤ _; omega) ?_
  rw [← eH14, ← ea15]
  clear b_29l b_29s b_29x b_29y b_29m b_29n b_29e b_29f b_25c b_25d b_25p b_25q
  refine hp_putFP (v := .ref a15) (f := 7) d_Lexer_init_28 q_30 (by decide) rfl (by decide) (k1 109 rfl rfl) rfl rfl rfl rfl (fun _ => rfl) (fun _ => rfl) rfl ?_
  refine hp_genx eH16 ?_
  have s_31 : Sa H14 H16 := by rw [eH16]; exact Sa.rf _
  refine ab_aload_n d_Lexer_init_31 rfl rfl rfl ?_
  refine ab_sipush (v := 6001) d_Lexer_init_32 (by decide) ?_
  have m_32 : Mo H16 H19 := by rw [eH19]; exact Mo.nw _ _ _
  have b_33l := (m_32).len
  have b_33s := (m_32).2
  have b_33e := congrArg List.length (s_31).1
  have b_33f := (s_31).2
  have b_33c : c0 ≤ H19.sh.length := by omega
  have b_33d : s0 ≤ H19.sl := by omega
  have b_33x : H19.sh.length = H16.sh.length + 1 := by rw [eH19]; simp [Hp.nw, mkH_sh]
  have b_33y : H19.sl = H16.sl + ((6001 : Int32)).toNatClampNeg := by rw [eH19]; rfl
  have q_34 := (m_32).get (by rw [(s_31).1]; exact q_30)
  have b_33m := (fH19).len
  have b_33n := (fH19).2
  have b_33p : H19.sh.length ≤ c0 + C := by omega
  have b_33q : H19.sl ≤ s0 + Sl := by omega
  refine ab_widen (cells' := H16.sh.length - c0) (slots' := H16.sl - s0) (by rw [(s_31).1]; exact Nat.le_refl _) (by rw [(s_31).2]; exact Nat.le_refl _) ?_
  refine hp_newa (q := 100) d_Lexer_init_35 rfl (k1 143 rfl rfl) tI (Or.inl rfl) ⟨by decide, by decide, rfl⟩ rfl q17 q18 (by show _ ≤ C; omega) (by show _ + ((6001 : Int32)).toNatClampNeg ≤ Sl; omega) ?_
  refine ab_widen (cells' := H19.sh.length - c0) (slots' := H19.sl - s0) (by omega) (by show _ + ((6001 : Int32)).toNatClampNeg ≤ _; omega) ?_
  rw [← eH19, ← ea20]
  clear b_33l b_33s b_33x b_33y b_33m b_33n b_33e b_33f b_29c b_29d b_29p b_29q
  refine hp_putFP (v := .ref a20) (f := 8) d_Lexer_init_37 q_34 (by decide) rfl (by decide) (k1 110 rfl rfl) rfl rfl rfl rfl (fun _ => rfl) (fun _ => rfl) rfl ?_
  refine hp_genx eH21 ?_
  have s_35 : Sa H19 H21 := by rw [eH21]; exact Sa.rf _
  refine ab_aload_n d_Lexer_init_40 rfl rfl rfl ?_
  refine ab_sipush (v := 6001) d_Lexer_init_41 (by decide) ?_
  have m_36 : Mo H21 H24 := by rw [eH24]; exact Mo.nw _ _ _
  have b_37l := (m_36).len
  have b_37s := (m_36).2
  have b_37e := congrArg List.length (s_35).1
  have b_37f := (s_35).2
  have b_37c : c0 ≤ H24.sh.length := by omega
  have b_37d : s0 ≤ H24.sl := by omega
  have b_37x : H24.sh.length = H21.sh.length + 1 := by rw [eH24]; simp [Hp.nw, mkH_sh]
  have b_37y : H24.sl = H21.sl + ((6001 : Int32)).toNatClampNeg := by rw [eH24]; rfl
  have q_38 := (m_36).get (by rw [(s_35).1]; exact q_34)
  have b_37m := (fH24).len
  have b_37n := (fH24).2
  have b_37p : H24.sh.length ≤ c0 + C := by omega
  have b_37q : H24.sl ≤ s0 + Sl := by omega
  refine ab_widen (cells' := H21.sh.length - c0) (slots' := H21.sl - s0) (by rw [(s_35).1]; exact Nat.le_refl _) (by rw [(s_35).2]; exact Nat.le_refl _) ?_
  refine hp_newa (q := 102) d_Lexer_init_44 rfl (k1 144 rfl rfl) tZ (Or.inr (Or.inr (Or.inl rfl))) ⟨by decide, by decide, rfl⟩ rfl q22 q23 (by show _ ≤ C; omega) (by show _ + ((6001 : Int32)).toNatClampNeg ≤ Sl; omega) ?_
  refine ab_widen (cells' := H24.sh.length - c0) (slots' := H24.sl - s0) (by omega) (by show _ + ((6001 : Int32)).toNatClampNeg ≤ _; omega) ?_
  rw [← eH24, ← ea25]
  clear b_37l b_37s b_37x b_37y b_37m b_37n b_37e b_37f b_33c b_33d b_33p b_33q
  refine hp_putFP (v := .ref a25) (f := 9) d_Lexer_init_46 q_38 (by decide) rfl (by decide) (k1 111 rfl rfl) rfl rfl rfl rfl (fun _ => rfl) (fun _ => rfl) rfl ?_
  refine hp_genx eH26 ?_
  have s_39 : Sa H24 H26 := by rw [eH26]; exact Sa.rf _
  refine ab_aload_n d_Lexer_init_49 rfl rfl rfl ?_
  refine ab_bipush (v := 42) d_Lexer_init_50 (by decide) ?_
  have m_40 : Mo H26 H29 := by rw [eH29]; exact Mo.nw _ _ _
  have b_41l := (m_40).len
  have b_41s := (m_40).2
  have b_41e := congrArg List.length (s_39).1
  have b_41f := (s_39).2
  have b_41c : c0 ≤ H29.sh.length := by omega
  have b_41d : s0 ≤ H29.sl := by omega
  have b_41x : H29.sh.length = H26.sh.length + 1 := by rw [eH29]; simp [Hp.nw, mkH_sh]
  have b_41y : H29.sl = H26.sl + ((42 : Int32)).toNatClampNeg := by rw [eH29]; rfl
  have q_42 := (m_40).get (by rw [(s_39).1]; exact q_38)
  have b_41m := (fH29).len
  have b_41n := (fH29).2
  have b_41p : H29.sh.length ≤ c0 + C := by omega
  have b_41q : H29.sl ≤ s0 + Sl := by omega
  refine ab_widen (cells' := H26.sh.length - c0) (slots' := H26.sl - s0) (by rw [(s_39).1]; exact Nat.le_refl _) (by rw [(s_39).2]; exact Nat.le_refl _) ?_
  refine hp_newa (q := 100) d_Lexer_init_52 rfl (k1 143 rfl rfl) tI (Or.inl rfl) ⟨by decide, by decide, rfl⟩ rfl q27 q28 (by show _ ≤ C; omega) (by show _ + ((42 : Int32)).toNatClampNeg ≤ Sl; omega) ?_
  refine ab_widen (cells' := H29.sh.length - c0) (slots' := H29.sl - s0) (by omega) (by show _ + ((42 : Int32)).toNatClampNeg ≤ _; omega) ?_
  rw [← eH29, ← ea30]
  clear b_41l b_41s b_41x b_41y b_41m b_41n b_41e b_41f b_37c b_37d b_37p b_37q
  refine hp_putFP (v := .ref a30) (f := 12) d_Lexer_init_54 q_42 (by decide) rfl (by decide) (k1 114 rfl rfl) rfl rfl rfl rfl (fun _ => rfl) (fun _ => rfl) rfl ?_
  refine hp_genx eH31 ?_
  have s_43 : Sa H29 H31 := by rw [eH31]; exact Sa.rf _
  refine ab_iconst (v := 0) d_Lexer_init_57 (by decide) ?_
  refine ab_istore_n (lv' := [some (.ref p0), some (.int 0), none]) d_Lexer_init_58 rfl (by decide) rfl ?_
  refine ab_iconst (v := 0) d_Lexer_init_59 (by decide) ?_
  refine ab_istore_n (lv' := [some (.ref p0), some (.int 0), some (.int 0)]) d_Lexer_init_60 rfl (by decide) rfl ?_
  refine ab_widen (cells' := H31.sh.length - c0) (slots' := H31.sl - s0) (by rw [(s_43).1]; exact Nat.le_refl _) (by rw [(s_43).2]; exact Nat.le_refl _) ?_
  exact kB_Lexer_init_61 N 0 0 H31 r hG (by rw [(s_43).1]; exact b_41c) (by rw [(s_43).2]; exact b_41d) (by rw [(s_43).1]; exact b_41p) (by rw [(s_43).2]; exact b_41q) hC hS
def y_Body_init : ab_Y := (⟨"WorldEngine$Body", "<init>", "(LWorldEngine$Lexer;)V"⟩, prog_2_method_1_code, 2, none, [])
theorem d_Body_init_0 : decode y_Body_init.2.1 0 = .ok (.aload_n 0, 1) := by decide +kernel
theorem d_Body_init_1 : decode y_Body_init.2.1 1 = .ok (.invokespecial 1, 3) := by decide +kernel
theorem d_Body_init_4 : decode y_Body_init.2.1 4 = .ok (.aload_n 0, 1) := by decide +kernel
theorem d_Body_init_5 : decode y_Body_init.2.1 5 = .ok (.aload_n 1, 1) := by decide +kernel
theorem d_Body_init_6 : decode y_Body_init.2.1 6 = .ok (.putfield 7, 3) := by decide +kernel
theorem d_Body_init_9 : decode y_Body_init.2.1 9 = .ok (.aload_n 0, 1) := by decide +kernel
theorem d_Body_init_10 : decode y_Body_init.2.1 10 = .ok (.bipush 21, 2) := by decide +kernel
theorem d_Body_init_12 : decode y_Body_init.2.1 12 = .ok (.newarray .int, 2) := by decide +kernel
theorem d_Body_init_14 : decode y_Body_init.2.1 14 = .ok (.putfield 13, 3) := by decide +kernel
theorem d_Body_init_17 : decode y_Body_init.2.1 17 = .ok (.return_, 1) := by decide +kernel
theorem s_Body_init : ab_Stat y_Body_init 1 := ⟨(k1 155 rfl rfl), (k1 8 rfl rfl), ⟨by decide, by decide⟩, by decide +kernel⟩
theorem i_Body_init : Cond.instanceMethod y_Body_init.1 ∈ ab_T := (k1 154 rfl rfl)
def F_Body_init (N : Nat) (p0 : Nat) (p1 : Nat) (H : Hp) : Option (Unit × Hp) :=
    ck (H.sh[p0]? = some (6, 0)) <|
    bnd (H.sP p0 0 (.ref p1)) fun H2 =>
    ck (¬ (21 : Int32) < 0) <|
    ck (((21 : Int32)).toNatClampNeg * 4 ≤ 536870912) <|
    bnd (H2.nw (100, ((21 : Int32)).toNatClampNeg) ((21 : Int32)).toNatClampNeg) fun H5 =>
    bnd H2.sh.length fun a6 =>
    bnd (H5.sP p0 4 (.ref a6)) fun H7 =>
    some ((), H7)
set_option maxRecDepth 20000 in
set_option maxHeartbeats 2000000 in
theorem m_Body_init {N : Nat} {p0 : Nat} {p1 : Nat} {H : Hp} {r : Unit × Hp} (hF : F_Body_init N p0 p1 H = some r) : Mo H r.2 := by
  unfold F_Body_init at hF
  have hm := Mo.rf H
  obtain ⟨q8, hG⟩ := ck_s hF; clear hF
  obtain ⟨H9, eH9, hF⟩ := bnd_g hG; clear hG
  replace hm : Mo H H9 := by rw [eH9]; exact hm
  obtain ⟨q10, hG⟩ := ck_s hF; clear hF
  obtain ⟨q11, hF⟩ := ck_s hG; clear hG
  obtain ⟨H12, eH12, hG⟩ := bnd_g hF; clear hF
  replace hm : Mo H H12 := hm.tr (by rw [eH12]; exact Mo.nw _ _ _)
  obtain ⟨a13, -, hF⟩ := bnd_g hG; clear hG
  obtain ⟨H14, eH14, hG⟩ := bnd_g hF; clear hF
  replace hm : Mo H H14 := by rw [eH14]; exact hm
  have hr := Option.some.inj hG; subst hr
  exact hm
set_option maxRecDepth 20000 in
set_option maxHeartbeats 2000000 in
theorem k_Body_init {N : Nat} {p0 : Nat} {p1 : Nat} {H : Hp} {r : Unit × Hp} {C Sl : Nat} (hF : F_Body_init N p0 p1 H = some r) (hC : r.2.sh.length ≤ H.sh.length + C) (hS : r.2.sl ≤ H.sl + Sl) : ab_M y_Body_init { frames := 1, cells := C, slots := Sl, locals := 60 } [.ref p0, .ref p1] (hpw H) (po (.returned none) r.2) := by
  unfold F_Body_init at hF
  obtain ⟨c0, e0⟩ : ∃ q, q = H.sh.length := ⟨_, rfl⟩
  obtain ⟨s0, e1⟩ : ∃ q, q = H.sl := ⟨_, rfl⟩
  rw [← e0] at hC
  rw [← e1] at hS
  have hc0 : c0 ≤ H.sh.length := Nat.le_of_eq e0
  have hs0 : s0 ≤ H.sl := Nat.le_of_eq e1
  have hcc : H.sh.length ≤ c0 + C := by omega
  have hss : H.sl ≤ s0 + Sl := by omega
  refine ab_of2 (lv := [some (.ref p0), some (.ref p1)]) 0 rfl rfl (Nat.le_of_ble_eq_true rfl) ?_
  refine ab_widen (cells' := H.sh.length - c0) (slots' := H.sl - s0) (Nat.zero_le _) (Nat.zero_le _) ?_
  refine ab_aload_n d_Body_init_0 rfl rfl rfl ?_
  refine ab_objInit d_Body_init_1 (k1 156 rfl rfl) (k1 37 rfl rfl) (k1 38 rfl rfl) (Nat.le_of_ble_eq_true rfl) (Nat.le_of_ble_eq_true rfl) ?_
  refine ab_aload_n d_Body_init_4 rfl rfl rfl ?_
  refine ab_aload_n d_Body_init_5 rfl rfl rfl ?_
  obtain ⟨q1, hG⟩ := ck_s hF; clear hF
  refine hp_putFP (v := .ref p1) (f := 0) d_Body_init_6 q1 (by decide) rfl (by decide) (k1 157 rfl rfl) rfl rfl rfl rfl (fun _ => rfl) (fun _ => rfl) rfl ?_
  refine hp_gen (fun H2 eH2 => ?_)
  replace hG := bnd_s eH2 hG
  have s_1 : Sa H H2 := by rw [eH2]; exact Sa.rf _
  refine ab_aload_n d_Body_init_9 rfl rfl rfl ?_
  refine ab_bipush (v := 21) d_Body_init_10 (by decide) ?_
  obtain ⟨q3, hF⟩ := ck_s hG; clear hG
  obtain ⟨q4, hG⟩ := ck_s hF; clear hF
  obtain ⟨H5, eH5, hF⟩ := bnd_g hG; clear hG
  obtain ⟨a6, ea6, hG⟩ := bnd_g hF; clear hF
  have m_2 : Mo H2 H5 := by rw [eH5]; exact Mo.nw _ _ _
  have b_3l := (m_2).len
  have b_3s := (m_2).2
  have b_3e := congrArg List.length (s_1).1
  have b_3f := (s_1).2
  have b_3c : c0 ≤ H5.sh.length := by omega
  have b_3d : s0 ≤ H5.sl := by omega
  have b_3x : H5.sh.length = H2.sh.length + 1 := by rw [eH5]; simp [Hp.nw, mkH_sh]
  have b_3y : H5.sl = H2.sl + ((21 : Int32)).toNatClampNeg := by rw [eH5]; rfl
  have q_4 := (m_2).get (by rw [(s_1).1]; exact q1)
  obtain ⟨H7, eH7, hF⟩ := bnd_g hG; clear hG
  have jH7 : Mo H5 H7 := by rw [eH7]; exact Mo.rf _
  have fH7 : Mo H7 r.2 := by
    have hm := Mo.rf H7
    have hr := Option.some.inj hF; subst hr
    exact hm
  have fH5 : Mo H5 r.2 := jH7.tr fH7
  have b_3m := (fH5).len
  have b_3n := (fH5).2
  have b_3p : H5.sh.length ≤ c0 + C := by omega
  have b_3q : H5.sl ≤ s0 + Sl := by omega
  refine ab_widen (cells' := H2.sh.length - c0) (slots' := H2.sl - s0) (by rw [(s_1).1]; exact Nat.le_refl _) (by rw [(s_1).2]; exact Nat.le_refl _) ?_
  refine hp_newa (q := 100) d_Body_init_12 rfl (k1 143 rfl rfl) tI (Or.inl rfl) ⟨by decide, by decide, rfl⟩ rfl q3 q4 (by show _ ≤ C; omega) (by show _ + ((21 : Int32)).toNatClampNeg ≤ Sl; omega) ?_
  refine ab_widen (cells' := H5.sh.length - c0) (slots' := H5.sl - s0) (by omega) (by show _ + ((21 : Int32)).toNatClampNeg ≤ _; omega) ?_
  rw [← eH5, ← ea6]
  clear b_3l b_3s b_3x b_3y b_3m b_3n b_3e b_3f
  refine hp_putFP (v := .ref a6) (f := 4) d_Body_init_14 q_4 (by decide) rfl (by decide) (k1 161 rfl rfl) rfl rfl rfl rfl (fun _ => rfl) (fun _ => rfl) rfl ?_
  refine hp_genx eH7 ?_
  have s_6 : Sa H5 H7 := by rw [eH7]; exact Sa.rf _
  exact ab_vret d_Body_init_17 rfl (by show _ ≤ C; omega) (by show _ ≤ Sl; omega) (by have hr := Option.some.inj hF; subst hr; exact ⟨rfl, rfl⟩)
def y_Reader_init : ab_Y := (⟨"WorldEngine$Reader", "<init>", "(LWorldEngine$Lexer;)V"⟩, prog_7_method_1_code, 2, none, [])
theorem d_Reader_init_0 : decode y_Reader_init.2.1 0 = .ok (.aload_n 0, 1) := by decide +kernel
theorem d_Reader_init_1 : decode y_Reader_init.2.1 1 = .ok (.invokespecial 1, 3) := by decide +kernel
theorem d_Reader_init_4 : decode y_Reader_init.2.1 4 = .ok (.aload_n 0, 1) := by decide +kernel
theorem d_Reader_init_5 : decode y_Reader_init.2.1 5 = .ok (.aload_n 1, 1) := by decide +kernel
theorem d_Reader_init_6 : decode y_Reader_init.2.1 6 = .ok (.putfield 7, 3) := by decide +kernel
theorem d_Reader_init_9 : decode y_Reader_init.2.1 9 = .ok (.aload_n 0, 1) := by decide +kernel
theorem d_Reader_init_10 : decode y_Reader_init.2.1 10 = .ok (.new 13, 3) := by decide +kernel
theorem d_Reader_init_13 : decode y_Reader_init.2.1 13 = .ok (.dup, 1) := by decide +kernel
theorem d_Reader_init_14 : decode y_Reader_init.2.1 14 = .ok (.aload_n 1, 1) := by decide +kernel
theorem d_Reader_init_15 : decode y_Reader_init.2.1 15 = .ok (.invokespecial 15, 3) := by decide +kernel
theorem d_Reader_init_18 : decode y_Reader_init.2.1 18 = .ok (.putfield 18, 3) := by decide +kernel
theorem d_Reader_init_21 : decode y_Reader_init.2.1 21 = .ok (.return_, 1) := by decide +kernel
theorem s_Reader_init : ab_Stat y_Reader_init 1 := ⟨(k1 149 rfl rfl), (k1 7 rfl rfl), ⟨by decide, by decide⟩, by decide +kernel⟩
theorem i_Reader_init : Cond.instanceMethod y_Reader_init.1 ∈ ab_T := (k1 148 rfl rfl)
def F_Reader_init (N : Nat) (p0 : Nat) (p1 : Nat) (H : Hp) : Option (Unit × Hp) :=
    ck (H.sh[p0]? = some (5, 0)) <|
    bnd (H.sP p0 0 (.ref p1)) fun H2 =>
    bnd (H2.nw (6, 0) 7) fun H3 =>
    bnd H2.sh.length fun a4 =>
    bC (F_Body_init N a4 p1 H3) fun v6 H7 =>
    bnd (H7.sP p0 1 (.ref a4)) fun H8 =>
    some ((), H8)
set_option maxRecDepth 20000 in
set_option maxHeartbeats 2000000 in
theorem m_Reader_init {N : Nat} {p0 : Nat} {p1 : Nat} {H : Hp} {r : Unit × Hp} (hF : F_Reader_init N p0 p1 H = some r) : Mo H r.2 := by
  unfold F_Reader_init at hF
  have hm := Mo.rf H
  obtain ⟨q9, hG⟩ := ck_s hF; clear hF
  obtain ⟨H10, eH10, hF⟩ := bnd_g hG; clear hG
  replace hm : Mo H H10 := by rw [eH10]; exact hm
  obtain ⟨H11, eH11, hG⟩ := bnd_g hF; clear hF
  replace hm : Mo H H11 := hm.tr (by rw [eH11]; exact Mo.nw _ _ _)
  obtain ⟨a12, -, hF⟩ := bnd_g hG; clear hG
  obtain ⟨v14, H15, z13, hG⟩ := bC_s hF; clear hF
  replace hm : Mo H H15 := hm.tr (m_Body_init z13)
  obtain ⟨H16, eH16, hF⟩ := bnd_g hG; clear hG
  replace hm : Mo H H16 := by rw [eH16]; exact hm
  have hr := Option.some.inj hF; subst hr
  exact hm
set_option maxRecDepth 20000 in
set_option maxHeartbeats 2000000 in
theorem k_Reader_init {N : Nat} {p0 : Nat} {p1 : Nat} {H : Hp} {r : Unit × Hp} {C Sl : Nat} (hF : F_Reader_init N p0 p1 H = some r) (hC : r.2.sh.length ≤ H.sh.length + C) (hS : r.2.sl ≤ H.sl + Sl) : ab_M y_Reader_init { frames := 2, cells := C, slots := Sl, locals := 81 } [.ref p0, .ref p1] (hpw H) (po (.returned none) r.2) := by
  unfold F_Reader_init at hF
  obtain ⟨c0, e0⟩ : ∃ q, q = H.sh.length := ⟨_, rfl⟩
  obtain ⟨s0, e1⟩ : ∃ q, q = H.sl := ⟨_, rfl⟩
  rw [← e0] at hC
  rw [← e1] at hS
  have hc0 : c0 ≤ H.sh.length := Nat.le_of_eq e0
  have hs0 : s0 ≤ H.sl := Nat.le_of_eq e1
  have hcc : H.sh.length ≤ c0 + C := by omega
  have hss : H.sl ≤ s0 + Sl := by omega
  refine ab_of2 (lv := [some (.ref p0), some (.ref p1)]) 0 rfl rfl (Nat.le_of_ble_eq_true rfl) ?_
  refine ab_widen (cells' := H.sh.length - c0) (slots' := H.sl - s0) (Nat.zero_le _) (Nat.zero_le _) ?_
  refine ab_aload_n d_Reader_init_0 rfl rfl rfl ?_
  refine ab_objInit d_Reader_init_1 (k1 150 rfl rfl) (k1 37 rfl rfl) (k1 38 rfl rfl) (Nat.le_of_ble_eq_true rfl) (Nat.le_of_ble_eq_true rfl) ?_
  refine ab_aload_n d_Reader_init_4 rfl rfl rfl ?_
  refine ab_aload_n d_Reader_init_5 rfl rfl rfl ?_
  obtain ⟨q1, hG⟩ := ck_s hF; clear hF
  refine hp_putFP (v := .ref p1) (f := 0) d_Reader_init_6 q1 (by decide) rfl (by decide) (k1 179 rfl rfl) rfl rfl rfl rfl (fun _ => rfl) (fun _ => rfl) rfl ?_
  refine hp_gen (fun H2 eH2 => ?_)
  replace hG := bnd_s eH2 hG
  have s_1 : Sa H H2 := by rw [eH2]; exact Sa.rf _
  refine ab_aload_n d_Reader_init_9 rfl rfl rfl ?_
  obtain ⟨H3, eH3, hF⟩ := bnd_g hG; clear hG
  obtain ⟨a4, ea4, hG⟩ := bnd_g hF; clear hF
  have m_2 : Mo H2 H3 := by rw [eH3]; exact Mo.nw _ _ _
  have b_3l := (m_2).len
  have b_3s := (m_2).2
  have b_3e := congrArg List.length (s_1).1
  have b_3f := (s_1).2
  have b_3c : c0 ≤ H3.sh.length := by omega
  have b_3d : s0 ≤ H3.sl := by omega
  have b_3x : H3.sh.length = H2.sh.length + 1 := by rw [eH3]; simp [Hp.nw, mkH_sh]
  have b_3y : H3.sl = H2.sl + 7 := by rw [eH3]; rfl
  have q_4 := (m_2).get (by rw [(s_1).1]; exact q1)
  obtain ⟨v6, H7, z5, hF⟩ := bC_s hG; clear hG
  have jH7 : Mo H3 H7 := (m_Body_init z5)
  obtain ⟨H8, eH8, hG⟩ := bnd_g hF; clear hF
  have jH8 : Mo H7 H8 := by rw [eH8]; exact Mo.rf _
  have fH8 : Mo H8 r.2 := by
    have hm := Mo.rf H8
    have hr := Option.some.inj hG; subst hr
    exact hm
  have fH7 : Mo H7 r.2 := jH8.tr fH8
  have fH3 : Mo H3 r.2 := jH7.tr fH7
  have b_3m := (fH3).len
  have b_3n := (fH3).2
  have b_3p : H3.sh.length ≤ c0 + C := by omega
  have b_3q : H3.sl ≤ s0 + Sl := by omega
  refine ab_widen (cells' := H2.sh.length - c0) (slots' := H2.sl - s0) (by rw [(s_1).1]; exact Nat.le_refl _) (by rw [(s_1).2]; exact Nat.le_refl _) ?_
  refine hp_new (ci := 6) d_Reader_init_10 rfl (k1 151 rfl rfl) (k1 152 rfl rfl) (k1 8 rfl rfl) rfl (by decide) (by decide) rfl (by show _ ≤ C; omega) (by show _ + 7 ≤ Sl; omega) ?_
  refine ab_widen (cells' := H3.sh.length - c0) (slots' := H3.sl - s0) (by omega) (by show _ + 7 ≤ _; omega) ?_
  rw [← eH3, ← ea4]
  clear b_3l b_3s b_3x b_3y b_3m b_3n b_3e b_3f
  refine ab_dup d_Reader_init_13 rfl ?_
  refine ab_aload_n d_Reader_init_14 rfl rfl rfl ?_
  have mz_8 : Mo H3 H7 := (m_Body_init z5)
  have b_9l := (mz_8).len
  have b_9s := (mz_8).2
  have b_9c : c0 ≤ H7.sh.length := by omega
  have b_9d : s0 ≤ H7.sl := by omega
  have q_10 := (mz_8).get q_4
  have b_9m := (fH7).len
  have b_9n := (fH7).2
  have b_9p : H7.sh.length ≤ c0 + C := by omega
  have b_9q : H7.sl ≤ s0 + Sl := by omega
  refine hp_callI_v (H1 := H7) (As := [.ref p1]) (rest := [.ref a4, .ref p0]) d_Reader_init_15 (k_Body_init z5 (C := H7.sh.length - H3.sh.length) (Sl := H7.sl - H3.sl) (by show H7.sh.length ≤ _; omega) (by show H7.sl ≤ _; omega)) (ab_mkC s_Body_init (Nat.le_of_ble_eq_true rfl) (Nat.le_of_ble_eq_true rfl) (show (H3.sh.length - c0) + (H7.sh.length - H3.sh.length) ≤ C from by omega) (show (H3.sl - s0) + (H7.sl - H3.sl) ≤ Sl from by omega)) (k1 153 rfl rfl) i_Body_init rfl (k1 155 rfl rfl) rfl (Nat.le_of_ble_eq_true rfl) ?_
  refine ab_widen (cells' := H7.sh.length - c0) (slots' := H7.sl - s0) (by show _ + (H7.sh.length - H3.sh.length) ≤ _; omega) (by show _ + (H7.sl - H3.sl) ≤ _; omega) ?_
  clear b_9l b_9s b_9m b_9n b_3c b_3d b_3p b_3q
  refine hp_putFP (v := .ref a4) (f := 1) d_Reader_init_18 q_10 (by decide) rfl (by decide) (k1 180 rfl rfl) rfl rfl rfl rfl (fun _ => rfl) (fun _ => rfl) rfl ?_
  refine hp_genx eH8 ?_
  have s_11 : Sa H7 H8 := by rw [eH8]; exact Sa.rf _
  exact ab_vret d_Reader_init_21 rfl (by show _ ≤ C; omega) (by show _ ≤ Sl; omega) (by have hr := Option.some.inj hG; subst hr; exact ⟨rfl, rfl⟩)
def y_Arr_fill : ab_Y := (⟨"java/util/Arrays", "fill", "([II)V"⟩, prog_30_method_103_code, 4, none, [])
theorem d_Arr_fill_0 : decode y_Arr_fill.2.1 0 = .ok (.iconst 0, 1) := by decide +kernel
theorem d_Arr_fill_1 : decode y_Arr_fill.2.1 1 = .ok (.istore_n 2, 1) := by decide +kernel
theorem d_Arr_fill_2 : decode y_Arr_fill.2.1 2 = .ok (.aload_n 0, 1) := by decide +kernel
theorem d_Arr_fill_3 : decode y_Arr_fill.2.1 3 = .ok (.arraylength, 1) := by decide +kernel
theorem d_Arr_fill_4 : decode y_Arr_fill.2.1 4 = .ok (.istore_n 3, 1) := by decide +kernel
theorem d_Arr_fill_5 : decode y_Arr_fill.2.1 5 = .ok (.iload_n 2, 1) := by decide +kernel
theorem d_Arr_fill_6 : decode y_Arr_fill.2.1 6 = .ok (.iload_n 3, 1) := by decide +kernel
theorem d_Arr_fill_7 : decode y_Arr_fill.2.1 7 = .ok (.if_icmp .ge 13, 3) := by decide +kernel
theorem d_Arr_fill_10 : decode y_Arr_fill.2.1 10 = .ok (.aload_n 0, 1) := by decide +kernel
theorem d_Arr_fill_11 : decode y_Arr_fill.2.1 11 = .ok (.iload_n 2, 1) := by decide +kernel
theorem d_Arr_fill_12 : decode y_Arr_fill.2.1 12 = .ok (.iload_n 1, 1) := by decide +kernel
theorem d_Arr_fill_13 : decode y_Arr_fill.2.1 13 = .ok (.iastore, 1) := by decide +kernel
theorem d_Arr_fill_14 : decode y_Arr_fill.2.1 14 = .ok (.iinc 2 1, 3) := by decide +kernel
theorem d_Arr_fill_17 : decode y_Arr_fill.2.1 17 = .ok (.goto (-12), 3) := by decide +kernel
theorem d_Arr_fill_20 : decode y_Arr_fill.2.1 20 = .ok (.return_, 1) := by decide +kernel
theorem s_Arr_fill : ab_Stat y_Arr_fill 2 := ⟨(k1 203 rfl rfl), (k1 11 rfl rfl), ⟨by decide, by decide⟩, by decide +kernel⟩
theorem t_Arr_fill : Cond.static y_Arr_fill.1 ∈ ab_T := (k1 202 rfl rfl)
def B_Arr_fill_5 (N : Nat) (p0 : Nat) (p1 : Int32) : Nat → Int32 → Int32 → Hp → Option (Unit × Hp)
  | 0, _, _, _ => none
  | n + 1, l2, l3, H =>
    if l3 ≤ l2 then
    some ((), H)
    else
    ar H 100 p0 fun n5 =>
    ck (inb l2 n5) <|
    bnd (H.sD p0 (l2).toNatClampNeg p1) fun H8 =>
    B_Arr_fill_5 N p0 p1 n (l2 + 1) l3 H8
termination_by structural n => n
set_option maxRecDepth 20000 in
set_option maxHeartbeats 2000000 in
theorem mB_Arr_fill_5 {N : Nat} {p0 : Nat} {p1 : Int32} : ∀ (n : Nat) (l2 : Int32) (l3 : Int32) (H : Hp) (r : Unit × Hp), B_Arr_fill_5 N p0 p1 n l2 l3 H = some r → Sa H r.2 := by
  intro n
  induction n with
  | zero => intro l2 l3 H r hF; rw [B_Arr_fill_5] at hF; cases hF
  | succ n ih =>
    intro l2 l3 H r hF
    rw [B_Arr_fill_5] at hF
    have hm := Sa.rf H
    rcases ite_s hF with ⟨q_2, hG⟩ | ⟨q_2, hG⟩
    · clear hF
      have hr := Option.some.inj hG; subst hr
      exact hm
    · clear hF
      obtain ⟨n10, q11, hF⟩ := ar_s hG; clear hG
      obtain ⟨q12, hG⟩ := ck_s hF; clear hF
      obtain ⟨H13, eH13, hF⟩ := bnd_g hG; clear hG
      replace hm : Sa H H13 := by rw [eH13]; exact hm
      exact hm.tr (ih (l2 + 1) l3 H13 r hF)
set_option maxRecDepth 20000 in
set_option maxHeartbeats 2000000 in
theorem kB_Arr_fill_5 {N : Nat} {p0 : Nat} {p1 : Int32} : ∀ (n : Nat) (l2 : Int32) (l3 : Int32) (H : Hp) (r : Unit × Hp), B_Arr_fill_5 N p0 p1 n l2 l3 H = some r → ab_V y_Arr_fill { frames := 0, cells := 0, slots := 0, locals := 0 } (po (.returned none) r.2) 0 0 0 0 5 [some (.ref p0), some (.int p1), some (.int l2), some (.int l3)] [] (hpw H) := by
  intro n
  induction n with
  | zero => intro l2 l3 H r hF; rw [B_Arr_fill_5] at hF; cases hF
  | succ n ih =>
    intro l2 l3 H r hF
    rw [B_Arr_fill_5] at hF
    refine ab_iload_n d_Arr_fill_5 rfl rfl ?_
    refine ab_iload_n d_Arr_fill_6 rfl rfl ?_
    refine ab_icmp_ge (tgt := 20) d_Arr_fill_7 (by decide) (fun q4 => ?_) (fun q4 => ?_)
    · rw [if_pos q4] at hF
      exact ab_vret d_Arr_fill_20 rfl (Nat.le_refl _) (Nat.le_refl _) (by have hr := Option.some.inj hF; subst hr; exact ⟨rfl, rfl⟩)
    · rw [if_neg q4] at hF
      refine ab_aload_n d_Arr_fill_10 rfl rfl rfl ?_
      refine ab_iload_n d_Arr_fill_11 rfl rfl ?_
      refine ab_iload_n d_Arr_fill_12 rfl rfl ?_
      obtain ⟨n5, q6, hG⟩ := ar_s hF; clear hF
      obtain ⟨q7, hF⟩ := ck_s hG; clear hG
      refine hp_iast d_Arr_fill_13 tI q6 q7 ?_
      refine hp_gen (fun H8 eH8 => ?_)
      replace hF := bnd_s eH8 hF
      have s_1 : Sa H H8 := by rw [eH8]; exact Sa.rf _
      refine ab_iinc (v := l2 + 1) (lv' := [some (.ref p0), some (.int p1), some (.int (l2 + 1)), some (.int l3)]) d_Arr_fill_14 rfl rfl (by decide) rfl ?_
      refine ab_goto (tgt := 5) d_Arr_fill_17 (by decide) ?_
      exact ih (l2 + 1) l3 H8 r hF
def F_Arr_fill (N : Nat) (p0 : Nat) (p1 : Int32) (H : Hp) : Option (Unit × Hp) :=
    ar H 100 p0 fun n1 =>
    bnd ((Int32.ofNat n1)) fun x3 =>
    B_Arr_fill_5 N p0 p1 N 0 x3 H
set_option maxRecDepth 20000 in
set_option maxHeartbeats 2000000 in
theorem m_Arr_fill {N : Nat} {p0 : Nat} {p1 : Int32} {H : Hp} {r : Unit × Hp} (hF : F_Arr_fill N p0 p1 H = some r) : Sa H r.2 := by
  unfold F_Arr_fill at hF
  have hm := Sa.rf H
  obtain ⟨n14, q15, hG⟩ := ar_s hF; clear hF
  obtain ⟨x16, -, hF⟩ := bnd_g hG; clear hG
  exact hm.tr (mB_Arr_fill_5 N 0 x16 H r hF)
set_option maxRecDepth 20000 in
set_option maxHeartbeats 2000000 in
theorem k_Arr_fill {N : Nat} {p0 : Nat} {p1 : Int32} {H : Hp} {r : Unit × Hp} (hF : F_Arr_fill N p0 p1 H = some r) : ab_M y_Arr_fill { frames := 0, cells := 0, slots := 0, locals := 0 } [.ref p0, .int p1] (hpw H) (po (.returned none) r.2) := by
  unfold F_Arr_fill at hF
  refine ab_of2 (lv := [some (.ref p0), some (.int p1), none, none]) 2 rfl (by decide +kernel) (Nat.le_of_ble_eq_true rfl) ?_
  refine ab_iconst (v := 0) d_Arr_fill_0 (by decide) ?_
  refine ab_istore_n (lv' := [some (.ref p0), some (.int p1), some (.int 0), none]) d_Arr_fill_1 rfl (by decide) rfl ?_
  refine ab_aload_n d_Arr_fill_2 rfl rfl rfl ?_
  obtain ⟨n1, q2, hG⟩ := ar_s hF; clear hF
  refine hp_alen (q := 100) d_Arr_fill_3 q2 (Or.inl ⟨by decide, by decide, rfl⟩) tI ?_
  refine ab_topi (fun x3 ex3 => ?_)
  replace hG := bnd_s ex3 hG
  refine ab_istore_n (lv' := [some (.ref p0), some (.int p1), some (.int 0), some (.int x3)]) d_Arr_fill_4 rfl (by decide) rfl ?_
  exact kB_Arr_fill_5 N 0 x3 H r hG
def y_World_init : ab_Y := (⟨"WorldEngine$World", "<init>", "()V"⟩, prog_12_method_1_code, 1, none, [])
theorem d_World_init_0 : decode y_World_init.2.1 0 = .ok (.aload_n 0, 1) := by decide +kernel
theorem d_World_init_1 : decode y_World_init.2.1 1 = .ok (.invokespecial 1, 3) := by decide +kernel
theorem d_World_init_4 : decode y_World_init.2.1 4 = .ok (.aload_n 0, 1) := by decide +kernel
theorem d_World_init_5 : decode y_World_init.2.1 5 = .ok (.sipush 256, 3) := by decide +kernel
theorem d_World_init_8 : decode y_World_init.2.1 8 = .ok (.newarray .int, 2) := by decide +kernel
theorem d_World_init_10 : decode y_World_init.2.1 10 = .ok (.putfield 9, 3) := by decide +kernel
theorem d_World_init_13 : decode y_World_init.2.1 13 = .ok (.aload_n 0, 1) := by decide +kernel
theorem d_World_init_14 : decode y_World_init.2.1 14 = .ok (.sipush 256, 3) := by decide +kernel
theorem d_World_init_17 : decode y_World_init.2.1 17 = .ok (.newarray .int, 2) := by decide +kernel
theorem d_World_init_19 : decode y_World_init.2.1 19 = .ok (.putfield 13, 3) := by decide +kernel
theorem d_World_init_22 : decode y_World_init.2.1 22 = .ok (.aload_n 0, 1) := by decide +kernel
theorem d_World_init_23 : decode y_World_init.2.1 23 = .ok (.getfield 13, 3) := by decide +kernel
theorem d_World_init_26 : decode y_World_init.2.1 26 = .ok (.iconst (-1), 1) := by decide +kernel
theorem d_World_init_27 : decode y_World_init.2.1 27 = .ok (.invokestatic 16, 3) := by decide +kernel
theorem d_World_init_30 : decode y_World_init.2.1 30 = .ok (.aload_n 0, 1) := by decide +kernel
theorem d_World_init_31 : decode y_World_init.2.1 31 = .ok (.sipush 12288, 3) := by decide +kernel
theorem d_World_init_34 : decode y_World_init.2.1 34 = .ok (.newarray .int, 2) := by decide +kernel
theorem d_World_init_36 : decode y_World_init.2.1 36 = .ok (.putfield 24, 3) := by decide +kernel
theorem d_World_init_39 : decode y_World_init.2.1 39 = .ok (.aload_n 0, 1) := by decide +kernel
theorem d_World_init_40 : decode y_World_init.2.1 40 = .ok (.sipush 1792, 3) := by decide +kernel
theorem d_World_init_43 : decode y_World_init.2.1 43 = .ok (.newarray .int, 2) := by decide +kernel
theorem d_World_init_45 : decode y_World_init.2.1 45 = .ok (.putfield 27, 3) := by decide +kernel
theorem d_World_init_48 : decode y_World_init.2.1 48 = .ok (.aload_n 0, 1) := by decide +kernel
theorem d_World_init_49 : decode y_World_init.2.1 49 = .ok (.bipush 32, 2) := by decide +kernel
theorem d_World_init_51 : decode y_World_init.2.1 51 = .ok (.newarray .int, 2) := by decide +kernel
theorem d_World_init_53 : decode y_World_init.2.1 53 = .ok (.putfield 30, 3) := by decide +kernel
theorem d_World_init_56 : decode y_World_init.2.1 56 = .ok (.return_, 1) := by decide +kernel
theorem s_World_init : ab_Stat y_World_init 0 := ⟨(k1 199 rfl rfl), (k1 10 rfl rfl), ⟨by decide, by decide⟩, by decide +kernel⟩
theorem i_World_init : Cond.instanceMethod y_World_init.1 ∈ ab_T := (k1 198 rfl rfl)
def F_World_init (N : Nat) (p0 : Nat) (H : Hp) : Option (Unit × Hp) :=
    ck (¬ (256 : Int32) < 0) <|
    ck (((256 : Int32)).toNatClampNeg * 4 ≤ 536870912) <|
    bnd (H.nw (100, ((256 : Int32)).toNatClampNeg) ((256 : Int32)).toNatClampNeg) fun H3 =>
    bnd H.sh.length fun a4 =>
    ck (H3.sh[p0]? = some (7, 0)) <|
    bnd (H3.sP p0 7 (.ref a4)) fun H6 =>
    ck (¬ (256 : Int32) < 0) <|
    ck (((256 : Int32)).toNatClampNeg * 4 ≤ 536870912) <|
    bnd (H6.nw (100, ((256 : Int32)).toNatClampNeg) ((256 : Int32)).toNatClampNeg) fun H9 =>
    bnd H6.sh.length fun a10 =>
    bnd (H9.sP p0 8 (.ref a10)) fun H11 =>
    rf (H11.P p0 8) fun a12 =>
    bC (F_Arr_fill N a12 ((-1) : Int32) H11) fun v15 H16 =>
    ck (¬ (12288 : Int32) < 0) <|
    ck (((12288 : Int32)).toNatClampNeg * 4 ≤ 536870912) <|
    bnd (H16.nw (100, ((12288 : Int32)).toNatClampNeg) ((12288 : Int32)).toNatClampNeg) fun H19 =>
    bnd H16.sh.length fun a20 =>
    bnd (H19.sP p0 11 (.ref a20)) fun H21 =>
    ck (¬ (1792 : Int32) < 0) <|
    ck (((1792 : Int32)).toNatClampNeg * 4 ≤ 536870912) <|
    bnd (H21.nw (100, ((1792 : Int32)).toNatClampNeg) ((1792 : Int32)).toNatClampNeg) fun H24 =>
    bnd H21.sh.length fun a25 =>
    bnd (H24.sP p0 12 (.ref a25)) fun H26 =>
    ck (¬ (32 : Int32) < 0) <|
    ck (((32 : Int32)).toNatClampNeg * 4 ≤ 536870912) <|
    bnd (H26.nw (100, ((32 : Int32)).toNatClampNeg) ((32 : Int32)).toNatClampNeg) fun H29 =>
    bnd H26.sh.length fun a30 =>
    bnd (H29.sP p0 14 (.ref a30)) fun H31 =>
    some ((), H31)
set_option maxRecDepth 20000 in
set_option maxHeartbeats 2000000 in
theorem m_World_init {N : Nat} {p0 : Nat} {H : Hp} {r : Unit × Hp} (hF : F_World_init N p0 H = some r) : Mo H r.2 := by
  unfold F_World_init at hF
  have hm := Mo.rf H
  obtain ⟨q32, hG⟩ := ck_s hF; clear hF
  obtain ⟨q33, hF⟩ := ck_s hG; clear hG
  obtain ⟨H34, eH34, hG⟩ := bnd_g hF; clear hF
  replace hm : Mo H H34 := hm.tr (by rw [eH34]; exact Mo.nw _ _ _)
  obtain ⟨a35, -, hF⟩ := bnd_g hG; clear hG
  obtain ⟨q36, hG⟩ := ck_s hF; clear hF
  obtain ⟨H37, eH37, hF⟩ := bnd_g hG; clear hG
  replace hm : Mo H H37 := by rw [eH37]; exact hm
  obtain ⟨q38, hG⟩ := ck_s hF; clear hF
  obtain ⟨q39, hF⟩ := ck_s hG; clear hG
  obtain ⟨H40, eH40, hG⟩ := bnd_g hF; clear hF
  replace hm : Mo H H40 := hm.tr (by rw [eH40]; exact Mo.nw _ _ _)
  obtain ⟨a41, -, hF⟩ := bnd_g hG; clear hG
  obtain ⟨H42, eH42, hG⟩ := bnd_g hF; clear hF
  replace hm : Mo H H42 := by rw [eH42]; exact hm
  obtain ⟨a43, e44, hF⟩ := rf_s hG; clear hG
  obtain ⟨v46, H47, z45, hG⟩ := bC_s hF; clear hF
  replace hm : Mo H H47 := hm.tr ((m_Arr_fill z45)).mo
  obtain ⟨q48, hF⟩ := ck_s hG; clear hG
  obtain ⟨q49, hG⟩ := ck_s hF; clear hF
  obtain ⟨H50, eH50, hF⟩ := bnd_g hG; clear hG
  replace hm : Mo H H50 := hm.tr (by rw [eH50]; exact Mo.nw _ _ _)
  obtain ⟨a51, -, hG⟩ := bnd_g hF; clear hF
  obtain ⟨H52, eH52, hF⟩ := bnd_g hG; clear hG
  replace hm : Mo H H52 := by rw [eH52]; exact hm
  obtain ⟨q53, hG⟩ := ck_s hF; clear hF
  obtain ⟨q54, hF⟩ := ck_s hG; clear hG
  obtain ⟨H55, eH55, hG⟩ := bnd_g hF; clear hF
  replace hm : Mo H H55 := hm.tr (by rw [eH55]; exact Mo.nw _ _ _)
  obtain ⟨a56, -, hF⟩ := bnd_g hG; clear hG
  obtain ⟨H57, eH57, hG⟩ := bnd_g hF; clear hF
  replace hm : Mo H H57 := by rw [eH57]; exact hm
  obtain ⟨q58, hF⟩ := ck_s hG; clear hG
  obtain ⟨q59, hG⟩ := ck_s hF; clear hF
  obtain ⟨H60, eH60, hF⟩ := bnd_g hG; clear hG
  replace hm : Mo H H60 := hm.tr (by rw [eH60]; exact Mo.nw _ _ _)
  obtain ⟨a61, -, hG⟩ := bnd_g hF; clear hF
  obtain ⟨H62, eH62, hF⟩ := bnd_g hG; clear hG
  replace hm : Mo H H62 := by rw [eH62]; exact hm
  have hr := Option.some.inj hF; subst hr
  exact hm
set_option maxRecDepth 20000 in
set_option maxHeartbeats 2000000 in
theorem k_World_init {N : Nat} {p0 : Nat} {H : Hp} {r : Unit × Hp} {C Sl : Nat} (hF : F_World_init N p0 H = some r) (hC : r.2.sh.length ≤ H.sh.length + C) (hS : r.2.sl ≤ H.sl + Sl) : ab_M y_World_init { frames := 1, cells := C, slots := Sl, locals := 60 } [.ref p0] (hpw H) (po (.returned none) r.2) := by
  unfold F_World_init at hF
  obtain ⟨c0, e0⟩ : ∃ q, q = H.sh.length := ⟨_, rfl⟩
  obtain ⟨s0, e1⟩ : ∃ q, q = H.sl := ⟨_, rfl⟩
  rw [← e0] at hC
  rw [← e1] at hS
  have hc0 : c0 ≤ H.sh.length := Nat.le_of_eq e0
  have hs0 : s0 ≤ H.sl := Nat.le_of_eq e1
  have hcc : H.sh.length ≤ c0 + C := by omega
  have hss : H.sl ≤ s0 + Sl := by omega
  refine ab_of2 (lv := [some (.ref p0)]) 0 rfl rfl (Nat.le_of_ble_eq_true rfl) ?_
  refine ab_widen (cells' := H.sh.length - c0) (slots' := H.sl - s0) (Nat.zero_le _) (Nat.zero_le _) ?_
  refine ab_aload_n d_World_init_0 rfl rfl rfl ?_
  refine ab_objInit d_World_init_1 (k1 200 rfl rfl) (k1 37 rfl rfl) (k1 38 rfl rfl) (Nat.le_of_ble_eq_true rfl) (Nat.le_of_ble_eq_true rfl) ?_
  refine ab_aload_n d_World_init_4 rfl rfl rfl ?_
  refine ab_sipush (v := 256) d_World_init_5 (by decide) ?_
  obtain ⟨q1, hG⟩ := ck_s hF; clear hF
  obtain ⟨q2, hF⟩ := ck_s hG; clear hG
  obtain ⟨H3, eH3, hG⟩ := bnd_g hF; clear hF
  obtain ⟨a4, ea4, hF⟩ := bnd_g hG; clear hG
  have m_1 : Mo H H3 := by rw [eH3]; exact Mo.nw _ _ _
  have b_2l := (m_1).len
  have b_2s := (m_1).2
  have b_2c : c0 ≤ H3.sh.length := by omega
  have b_2d : s0 ≤ H3.sl := by omega
  have b_2x : H3.sh.length = H.sh.length + 1 := by rw [eH3]; simp [Hp.nw, mkH_sh]
  have b_2y : H3.sl = H.sl + ((256 : Int32)).toNatClampNeg := by rw [eH3]; rfl
  obtain ⟨q5, hG⟩ := ck_s hF; clear hF
  obtain ⟨H6, eH6, hF⟩ := bnd_g hG; clear hG
  have jH6 : Mo H3 H6 := by rw [eH6]; exact Mo.rf _
  obtain ⟨q7, hG⟩ := ck_s hF; clear hF
  obtain ⟨q8, hF⟩ := ck_s hG; clear hG
  obtain ⟨H9, eH9, hG⟩ := bnd_g hF; clear hF
  obtain ⟨a10, ea10, hF⟩ := bnd_g hG; clear hG
  have jH9 : Mo H6 H9 := by rw [eH9]; exact Mo.nw _ _ _
  obtain ⟨H11, eH11, hG⟩ := bnd_g hF; clear hF
  have jH11 : Mo H9 H11 := by rw [eH11]; exact Mo.rf _
  obtain ⟨a12, e13, hF⟩ := rf_s hG; clear hG
  obtain ⟨v15, H16, z14, hG⟩ := bC_s hF; clear hF
  have jH16 : Mo H11 H16 := ((m_Arr_fill z14)).mo
  obtain ⟨q17, hF⟩ := ck_s hG; clear hG
  obtain ⟨q18, hG⟩ := ck_s hF; clear hF
  obtain ⟨H19, eH19, hF⟩ := bnd_g hG; clear hG
  obtain ⟨a20, ea20, hG⟩ := bnd_g hF; clear hF
  have jH19 : Mo H16 H19 := by rw [eH19]; exact Mo.nw _ _ _
  obtain ⟨H21, eH21, hF⟩ := bnd_g hG; clear hG
  have jH21 : Mo H19 H21 := by rw [eH21]; exact Mo.rf _
  obtain ⟨q22, hG⟩ := ck_s hF; clear hF
  obtain ⟨q23, hF⟩ := ck_s hG; clear hG
  obtain ⟨H24, eH24, hG⟩ := bnd_g hF; clear hF
  obtain ⟨a25, ea25, hF⟩ := bnd_g hG; clear hG
  have jH24 : Mo H21 H24 := by rw [eH24]; exact Mo.nw _ _ _
  obtain ⟨H26, eH26, hG⟩ := bnd_g hF; clear hF
  have jH26 : Mo H24 H26 := by rw [eH26]; exact Mo.rf _
  obtain ⟨q27, hF⟩ := ck_s hG; clear hG
  obtain ⟨q28, hG⟩ := ck_s hF; clear hF
  obtain ⟨H29, eH29, hF⟩ := bnd_g hG; clear hG
  obtain ⟨a30, ea30, hG⟩ := bnd_g hF; clear hF
  have jH29 : Mo H26 H29 := by rw [eH29]; exact Mo.nw _ _ _
  obtain ⟨H31, eH31, hF⟩ := bnd_g hG; clear hG
  have jH31 : Mo H29 H31 := by rw [eH31]; exact Mo.rf _
  have fH31 : Mo H31 r.2 := by
    have hm := Mo.rf H31
    have hr := Option.some.inj hF; subst hr
    exact hm
  have fH29 : Mo H29 r.2 := jH31.tr fH31
  have fH26 : Mo H26 r.2 := jH29.tr fH29
  have fH24 : Mo H24 r.2 := jH26.tr fH26
  have fH21 : Mo H21 r.2 := jH24.tr fH24
  have fH19 : Mo H19 r.2 := jH21.tr fH21
  have fH16 : Mo H16 r.2 := jH19.tr fH19
  have fH11 : Mo H11 r.2 := jH16.tr fH16
  have fH9 : Mo H9 r.2 := jH11.tr fH11
  have fH6 : Mo H6 r.2 := jH9.tr fH9
  have fH3 : Mo H3 r.2 := jH6.tr fH6
  have b_2m := (fH3).len
  have b_2n := (fH3).2
  have b_2p : H3.sh.length ≤ c0 + C := by omega
  have b_2q : H3.sl ≤ s0 + Sl := by omega
  refine hp_newa (q := 100) d_World_init_8 rfl (k1 143 rfl rfl) tI (Or.inl rfl) ⟨by decide, by decide, rfl⟩ rfl q1 q2 (by show _ ≤ C; omega) (by show _ + ((256 : Int32)).toNatClampNeg ≤ Sl; omega) ?_
  refine ab_widen (cells' := H3.sh.length - c0) (slots' := H3.sl - s0) (by omega) (by show _ + ((256 : Int32)).toNatClampNeg ≤ _; omega) ?_
  rw [← eH3, ← ea4]
  clear b_2l b_2s b_2x b_2y b_2m b_2n
  refine hp_putFP (v := .ref a4) (f := 7) d_World_init_10 q5 (by decide) rfl (by decide) (k1 227 rfl rfl) rfl rfl rfl rfl (fun _ => rfl) (fun _ => rfl) rfl ?_
  refine hp_genx eH6 ?_
  have s_13 : Sa H3 H6 := by rw [eH6]; exact Sa.rf _
  refine ab_aload_n d_World_init_13 rfl rfl rfl ?_
  refine ab_sipush (v := 256) d_World_init_14 (by decide) ?_
  have m_14 : Mo H6 H9 := by rw [eH9]; exact Mo.nw _ _ _
  have b_15l := (m_14).len
  have b_15s := (m_14).2
  have b_15e := congrArg List.length (s_13).1
  have b_15f := (s_13).2
  have b_15c : c0 ≤ H9.sh.length := by omega
  have b_15d : s0 ≤ H9.sl := by omega
  have b_15x : H9.sh.length = H6.sh.length + 1 := by rw [eH9]; simp [Hp.nw, mkH_sh]
  have b_15y : H9.sl = H6.sl + ((256 : Int32)).toNatClampNeg := by rw [eH9]; rfl
  have q_16 := (m_14).get (by rw [(s_13).1]; exact q5)
  have b_15m := (fH9).len
  have b_15n := (fH9).2
  have b_15p : H9.sh.length ≤ c0 + C := by omega
  have b_15q : H9.sl ≤ s0 + Sl := by omega
  refine ab_widen (cells' := H6.sh.length - c0) (slots' := H6.sl - s0) (by rw [(s_13).1]; exact Nat.le_refl _) (by rw [(s_13).2]; exact Nat.le_refl _) ?_
  refine hp_newa (q := 100) d_World_init_17 rfl (k1 143 rfl rfl) tI (Or.inl rfl) ⟨by decide, by decide, rfl⟩ rfl q7 q8 (by show _ ≤ C; omega) (by show _ + ((256 : Int32)).toNatClampNeg ≤ Sl; omega) ?_
  refine ab_widen (cells' := H9.sh.length - c0) (slots' := H9.sl - s0) (by omega) (by show _ + ((256 : Int32)).toNatClampNeg ≤ _; omega) ?_
  rw [← eH9, ← ea10]
  clear b_15l b_15s b_15x b_15y b_15m b_15n b_15e b_15f b_2c b_2d b_2p b_2q
  refine hp_putFP (v := .ref a10) (f := 8) d_World_init_19 q_16 (by decide) rfl (by decide) (k1 229 rfl rfl) rfl rfl rfl rfl (fun _ => rfl) (fun _ => rfl) rfl ?_
  refine hp_genx eH11 ?_
  have s_17 : Sa H9 H11 := by rw [eH11]; exact Sa.rf _
  refine ab_aload_n d_World_init_22 rfl rfl rfl ?_
  refine hp_getR (f := 8) d_World_init_23 (by rw [(s_17).1]; exact q_16) (by decide) rfl (by decide) (k1 229 rfl rfl) rfl e13 ?_
  refine ab_iconst (v := (-1)) d_World_init_26 (by decide) ?_
  refine ab_widen (cells' := H11.sh.length - c0) (slots' := H11.sl - s0) (by rw [(s_17).1]; exact Nat.le_refl _) (by rw [(s_17).2]; exact Nat.le_refl _) ?_
  have b_18e := congrArg List.length (s_17).1
  have b_18f := (s_17).2
  refine hp_callS_v (H1 := H16) (As := [.ref a12, .int (-1)]) (rest := []) d_World_init_27 (k_Arr_fill z14) (ab_mkC s_Arr_fill (Nat.le_of_ble_eq_true rfl) (Nat.le_of_ble_eq_true rfl) (show (H11.sh.length - c0) + 0 ≤ C from by omega) (show (H11.sl - s0) + 0 ≤ Sl from by omega)) (k1 201 rfl rfl) t_Arr_fill rfl (Nat.le_of_ble_eq_true rfl) ?_
  have s_19 : Sa H9 H16 := (s_17).tr (m_Arr_fill z14)
  refine ab_widen (cells' := H9.sh.length - c0) (slots' := H9.sl - s0) (by show (H11.sh.length - c0) + 0 ≤ _; omega) (by show (H11.sl - s0) + 0 ≤ _; omega) ?_
  clear b_18e b_18f
  refine ab_aload_n d_World_init_30 rfl rfl rfl ?_
  refine ab_sipush (v := 12288) d_World_init_31 (by decide) ?_
  have m_20 : Mo H16 H19 := by rw [eH19]; exact Mo.nw _ _ _
  have b_21l := (m_20).len
  have b_21s := (m_20).2
  have b_21e := congrArg List.length (s_19).1
  have b_21f := (s_19).2
  have b_21c : c0 ≤ H19.sh.length := by omega
  have b_21d : s0 ≤ H19.sl := by omega
  have b_21x : H19.sh.length = H16.sh.length + 1 := by rw [eH19]; simp [Hp.nw, mkH_sh]
  have b_21y : H19.sl = H16.sl + ((12288 : Int32)).toNatClampNeg := by rw [eH19]; rfl
  have q_22 := (m_20).get (by rw [(s_19).1]; exact q_16)
  have b_21m := (fH19).len
  have b_21n := (fH19).2
  have b_21p : H19.sh.length ≤ c0 + C := by omega
  have b_21q : H19.sl ≤ s0 + Sl := by omega
  refine ab_widen (cells' := H16.sh.length - c0) (slots' := H16.sl - s0) (by rw [(s_19).1]; exact Nat.le_refl _) (by rw [(s_19).2]; exact Nat.le_refl _) ?_
  refine hp_newa (q := 100) d_World_init_34 rfl (k1 143 rfl rfl) tI (Or.inl rfl) ⟨by decide, by decide, rfl⟩ rfl q17 q18 (by show _ ≤ C; omega) (by show _ + ((12288 : Int32)).toNatClampNeg ≤ Sl; omega) ?_
  refine ab_widen (cells' := H19.sh.length - c0) (slots' := H19.sl - s0) (by omega) (by show _ + ((12288 : Int32)).toNatClampNeg ≤ _; omega) ?_
  rw [← eH19, ← ea20]
  clear b_21l b_21s b_21x b_21y b_21m b_21n b_21e b_21f b_15c b_15d b_15p b_15q
  refine hp_putFP (v := .ref a20) (f := 11) d_World_init_36 q_22 (by decide) rfl (by decide) (k1 236 rfl rfl) rfl rfl rfl rfl (fun _ => rfl) (fun _ => rfl) rfl ?_
  refine hp_genx eH21 ?_
  have s_23 : Sa H19 H21 := by rw [eH21]; exact Sa.rf _
  refine ab_aload_n d_World_init_39 rfl rfl rfl ?_
  refine ab_sipush (v := 1792) d_World_init_40 (by decide) ?_
  have m_24 : Mo H21 H24 := by rw [eH24]; exact Mo.nw _ _ _
  have b_25l := (m_24).len
  have b_25s := (m_24).2
  have b_25e := congrArg List.length (s_23).1
  have b_25f := (s_23).2
  have b_25c : c0 ≤ H24.sh.length := by omega
  have b_25d : s0 ≤ H24.sl := by omega
  have b_25x : H24.sh.length = H21.sh.length + 1 := by rw [eH24]; simp [Hp.nw, mkH_sh]
  have b_25y : H24.sl = H21.sl + ((1792 : Int32)).toNatClampNeg := by rw [eH24]; rfl
  have q_26 := (m_24).get (by rw [(s_23).1]; exact q_22)
  have b_25m := (fH24).len
  have b_25n := (fH24).2
  have b_25p : H24.sh.length ≤ c0 + C := by omega
  have b_25q : H24.sl ≤ s0 + Sl := by omega
  refine ab_widen (cells' := H21.sh.length - c0) (slots' := H21.sl - s0) (by rw [(s_23).1]; exact Nat.le_refl _) (by rw [(s_23).2]; exact Nat.le_refl _) ?_
  refine hp_newa (q := 100) d_World_init_43 rfl (k1 143 rfl rfl) tI (Or.inl rfl) ⟨by decide, by decide, rfl⟩ rfl q22 q23 (by show _ ≤ C; omega) (by show _ + ((1792 : Int32)).toNatClampNeg ≤ Sl; omega) ?_
  refine ab_widen (cells' := H24.sh.length - c0) (slots' := H24.sl - s0) (by omega) (by show _ + ((1792 : Int32)).toNatClampNeg ≤ _; omega) ?_
  rw [← eH24, ← ea25]
  clear b_25l b_25s b_25x b_25y b_25m b_25n b_25e b_25f b_21c b_21d b_21p b_21q
  refine hp_putFP (v := .ref a25) (f := 12) d_World_init_45 q_26 (by decide) rfl (by decide) (k1 238 rfl rfl) rfl rfl rfl rfl (fun _ => rfl) (fun _ => rfl) rfl ?_
  refine hp_genx eH26 ?_
  have s_27 : Sa H24 H26 := by rw [eH26]; exact Sa.rf _
  refine ab_aload_n d_World_init_48 rfl rfl rfl ?_
  refine ab_bipush (v := 32) d_World_init_49 (by decide) ?_
  have m_28 : Mo H26 H29 := by rw [eH29]; exact Mo.nw _ _ _
  have b_29l := (m_28).len
  have b_29s := (m_28).2
  have b_29e := congrArg List.length (s_27).1
  have b_29f := (s_27).2
  have b_29c : c0 ≤ H29.sh.length := by omega
  have b_29d : s0 ≤ H29.sl := by omega
  have b_29x : H29.sh.length = H26.sh.length + 1 := by rw [eH29]; simp [Hp.nw, mkH_sh]
  have b_29y : H29.sl = H26.sl + ((32 : Int32)).toNatClampNeg := by rw [eH29]; rfl
  have q_30 := (m_28).get (by rw [(s_27).1]; exact q_26)
  have b_29m := (fH29).len
  have b_29n := (fH29).2
  have b_29p : H29.sh.length ≤ c0 + C := by omega
  have b_29q : H29.sl ≤ s0 + Sl := by omega
  refine ab_widen (cells' := H26.sh.length - c0) (slots' := H26.sl - s0) (by rw [(s_27).1]; exact Nat.le_refl _) (by rw [(s_27).2]; exact Nat.le_refl _) ?_
  refine hp_newa (q := 100) d_World_init_51 rfl (k1 143 rfl rfl) tI (Or.inl rfl) ⟨by decide, by decide, rfl⟩ rfl q27 q28 (by show _ ≤ C; omega) (by show _ + ((32 : Int32)).toNatClampNeg ≤ Sl; omega) ?_
  refine ab_widen (cells' := H29.sh.length - c0) (slots' := H29.sl - s0) (by omega) (by show _ + ((32 : Int32)).toNatClampNeg ≤ _; omega) ?_
  rw [← eH29, ← ea30]
  clear b_29l b_29s b_29x b_29y b_29m b_29n b_29e b_29f b_25c b_25d b_25p b_25q
  refine hp_putFP (v := .ref a30) (f := 14) d_World_init_53 q_30 (by decide) rfl (by decide) (k2 8 rfl rfl) rfl rfl rfl rfl (fun _ => rfl) (fun _ => rfl) rfl ?_
  refine hp_genx eH31 ?_
  have s_31 : Sa H29 H31 := by rw [eH31]; exact Sa.rf _
  exact ab_vret d_World_init_56 rfl (by show _ ≤ C; omega) (by show _ ≤ Sl; omega) (by have hr := Option.some.inj hF; subst hr; exact ⟨rfl, rfl⟩)
