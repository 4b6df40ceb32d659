def in_up (b : Nat) : Nat → Prop := fun i => b ≤ i
theorem fr_World {S : Nat → Prop} {h h1 : List ab_E} {b : Nat} {s : Nat → Int32} {a : Nat → Nat → Int32} (hf : ab_fr S h h1) (h0 : at_World h b s a) (hn : ∀ i, in_World b i → ¬ S i) : at_World h1 b s a := by
  obtain ⟨g0, g1, g2, g3, g4, g5⟩ := h0
  exact ⟨ab_fr_at hf g0 (hn _ (by show _ ∧ _; omega)), ab_fr_at hf g1 (hn _ (by show _ ∧ _; omega)), ab_fr_at hf g2 (hn _ (by show _ ∧ _; omega)), ab_fr_at hf g3 (hn _ (by show _ ∧ _; omega)), ab_fr_at hf g4 (hn _ (by show _ ∧ _; omega)), ab_fr_at hf g5 (hn _ (by show _ ∧ _; omega))⟩
set_option maxRecDepth 20000 in
set_option maxHeartbeats 2000000 in
theorem c_Str_coder_0 {h : List ab_E}     : ab_M y_Str_coder { frames := 0, cells := 0, slots := 0, locals := 0 } [.float 0] h (ab_A (some (.int 0)) (fun h1 => h = h1)) := by
  refine ab_of2 (lv := [some (.float 0)]) 0 rfl (by decide +kernel) (Nat.le_of_ble_eq_true rfl) ?_
  refine ab_getsC d_Str_coder_0 (k1 54 rfl rfl) ?_
  refine ab_if_eq (tgt := 13) d_Str_coder_3 (by decide) (fun q1 => ?_) (fun q1 => ?_)
  · exact absurd q1 (by decide)
  · refine ab_aload_n d_Str_coder_6 rfl rfl rfl ?_
    refine ab_getKc d_Str_coder_7 (by decide) (k4 228 rfl rfl) ?_
    refine ab_goto (tgt := 14) d_Str_coder_10 (by decide) ?_
    exact ab_zret d_Str_coder_14 rfl rfl (Nat.le_refl _) (Nat.le_refl _) ⟨rfl, rfl⟩
set_option maxRecDepth 20000 in
set_option maxHeartbeats 2000000 in
theorem c_Str_isLatin1_0 {h : List ab_E}     : ab_M y_Str_isLatin1 { frames := 0, cells := 0, slots := 0, locals := 0 } [.float 0] h (ab_A (some (.int 1)) (fun h1 => h = h1)) := by
  refine ab_of2 (lv := [some (.float 0)]) 0 rfl (by decide +kernel) (Nat.le_of_ble_eq_true rfl) ?_
  refine ab_getsC d_Str_isLatin1_0 (k1 54 rfl rfl) ?_
  refine ab_if_eq (tgt := 17) d_Str_isLatin1_3 (by decide) (fun q1 => ?_) (fun q1 => ?_)
  · exact absurd q1 (by decide)
  · refine ab_aload_n d_Str_isLatin1_6 rfl rfl rfl ?_
    refine ab_getKc d_Str_isLatin1_7 (by decide) (k4 228 rfl rfl) ?_
    refine ab_if_ne (tgt := 17) d_Str_isLatin1_10 (by decide) (fun q2 => ?_) (fun q2 => ?_)
    · exact absurd rfl q2
    · refine ab_iconst (v := 1) d_Str_isLatin1_13 (by decide) ?_
      refine ab_goto (tgt := 18) d_Str_isLatin1_14 (by decide) ?_
      exact ab_zret d_Str_isLatin1_18 rfl rfl (Nat.le_refl _) (Nat.le_refl _) ⟨rfl, rfl⟩
set_option maxRecDepth 20000 in
set_option maxHeartbeats 2000000 in
theorem c_Str_length_0 {h : List ab_E}     : ab_M y_Str_length { frames := 1, cells := 0, slots := 0, locals := 40 } [.float 0] h (ab_A (some (.int 214)) (fun h1 => h = h1)) := by
  refine ab_of2 (lv := [some (.float 0)]) 0 rfl (by decide +kernel) (Nat.le_of_ble_eq_true rfl) ?_
  refine ab_aload_n d_Str_length_0 rfl rfl rfl ?_
  refine ab_getKv (k1 := 100) d_Str_length_1 (by decide) (by decide) (k4 227 rfl rfl) ?_
  refine ab_alenK (k0 := 0) (v := 214) d_Str_length_4 (by decide) (by decide) (by decide) ?_
  refine ab_aload_n d_Str_length_5 rfl rfl rfl ?_
  refine ab_callVK_a (k0 := 0) (As := []) (rest := [.int 214]) d_Str_length_6 (by decide) (c_Str_coder_0) (ab_mkC s_Str_coder (Nat.le_of_ble_eq_true rfl) (Nat.le_of_ble_eq_true rfl) (by decide) (by decide)) (k1 50 rfl rfl) i_Str_coder v_Str_coder rfl (Nat.le_of_ble_eq_true rfl) (fun h2 q1 => ?_)
  subst q1
  refine ab_ishr d_Str_length_9 ?_
  exact ab_iret d_Str_length_10 rfl (Nat.le_refl _) (Nat.le_refl _) ⟨by decide, rfl⟩
set_option maxRecDepth 20000 in
set_option maxHeartbeats 2000000 in
theorem c_Pre_checkIndex_n {h : List ab_E}  {i n : Int32}  (h0 : ¬ i < 0) (h1 : i < n) : ab_M y_Pre_checkIndex { frames := 0, cells := 0, slots := 0, locals := 0 } [.int i, .int n, .null] h (ab_A (some (.int i)) (fun h1 => h = h1)) := by
  refine ab_of2 (lv := [some (.int i), some (.int n), some (.null)]) 0 rfl (by decide +kernel) (Nat.le_of_ble_eq_true rfl) ?_
  refine ab_iload_n d_Pre_checkIndex_0 rfl rfl ?_
  refine ab_if_lt (tgt := 9) d_Pre_checkIndex_1 (by decide) (fun q1 => ?_) (fun q1 => ?_)
  · exact absurd q1 h0
  · refine ab_iload_n d_Pre_checkIndex_4 rfl rfl ?_
    refine ab_iload_n d_Pre_checkIndex_5 rfl rfl ?_
    refine ab_icmp_lt (tgt := 16) d_Pre_checkIndex_6 (by decide) (fun q2 => ?_) (fun q2 => ?_)
    · refine ab_iload_n d_Pre_checkIndex_16 rfl rfl ?_
      exact ab_iret d_Pre_checkIndex_17 rfl (Nat.le_refl _) (Nat.le_refl _) ⟨rfl, rfl⟩
    · exact absurd h1 q2
set_option maxRecDepth 20000 in
set_option maxHeartbeats 2000000 in
theorem c_Pre_checkIndex_r {h : List ab_E}  {i n : Int32} {z : Nat}  (h0 : ¬ i < 0) (h1 : i < n) : ab_M y_Pre_checkIndex { frames := 0, cells := 0, slots := 0, locals := 0 } [.int i, .int n, .ref z] h (ab_A (some (.int i)) (fun h1 => h = h1)) := by
  refine ab_of2 (lv := [some (.int i), some (.int n), some (.ref z)]) 0 rfl (by decide +kernel) (Nat.le_of_ble_eq_true rfl) ?_
  refine ab_iload_n d_Pre_checkIndex_0 rfl rfl ?_
  refine ab_if_lt (tgt := 9) d_Pre_checkIndex_1 (by decide) (fun q1 => ?_) (fun q1 => ?_)
  · exact absurd q1 h0
  · refine ab_iload_n d_Pre_checkIndex_4 rfl rfl ?_
    refine ab_iload_n d_Pre_checkIndex_5 rfl rfl ?_
    refine ab_icmp_lt (tgt := 16) d_Pre_checkIndex_6 (by decide) (fun q2 => ?_) (fun q2 => ?_)
    · refine ab_iload_n d_Pre_checkIndex_16 rfl rfl ?_
      exact ab_iret d_Pre_checkIndex_17 rfl (Nat.le_refl _) (Nat.le_refl _) ⟨rfl, rfl⟩
    · exact absurd h1 q2
set_option maxRecDepth 20000 in
set_option maxHeartbeats 2000000 in
theorem c_Pre_checkIndex_f {h : List ab_E}  {i n : Int32} {z : UInt32}  (h0 : ¬ i < 0) (h1 : i < n) : ab_M y_Pre_checkIndex { frames := 0, cells := 0, slots := 0, locals := 0 } [.int i, .int n, .float z] h (ab_A (some (.int i)) (fun h1 => h = h1)) := by
  refine ab_of2 (lv := [some (.int i), some (.int n), some (.float z)]) 0 rfl (by decide +kernel) (Nat.le_of_ble_eq_true rfl) ?_
  refine ab_iload_n d_Pre_checkIndex_0 rfl rfl ?_
  refine ab_if_lt (tgt := 9) d_Pre_checkIndex_1 (by decide) (fun q1 => ?_) (fun q1 => ?_)
  · exact absurd q1 h0
  · refine ab_iload_n d_Pre_checkIndex_4 rfl rfl ?_
    refine ab_iload_n d_Pre_checkIndex_5 rfl rfl ?_
    refine ab_icmp_lt (tgt := 16) d_Pre_checkIndex_6 (by decide) (fun q2 => ?_) (fun q2 => ?_)
    · refine ab_iload_n d_Pre_checkIndex_16 rfl rfl ?_
      exact ab_iret d_Pre_checkIndex_17 rfl (Nat.le_refl _) (Nat.le_refl _) ⟨rfl, rfl⟩
    · exact absurd h1 q2
theorem c_Pre_checkIndex {h : List ab_E} {i n : Int32} {v : Value} (ev : ab_ir v = true) (h0 : ¬ i < 0) (h1 : i < n) : ab_M y_Pre_checkIndex { frames := 0, cells := 0, slots := 0, locals := 0 } [.int i, .int n, v] h (ab_A (some (.int i)) (fun h1 => h = h1)) := by
  cases v <;> first | exact c_Pre_checkIndex_n h0 h1 | exact c_Pre_checkIndex_r h0 h1 | exact c_Pre_checkIndex_f h0 h1 | cases ev
set_option maxRecDepth 20000 in
set_option maxHeartbeats 2000000 in
theorem c_Str_checkIndex {h : List ab_E}  {i n : Int32}  (h0 : ¬ i < 0) (h1 : i < n) : ab_M y_Str_checkIndex { frames := 1, cells := 0, slots := 0, locals := 40 } [.int i, .int n] h (ab_A none (fun h1 => h = h1)) := by
  refine ab_of2 (lv := [some (.int i), some (.int n)]) 0 rfl (by decide +kernel) (Nat.le_of_ble_eq_true rfl) ?_
  refine ab_iload_n d_Str_checkIndex_0 rfl rfl ?_
  refine ab_iload_n d_Str_checkIndex_1 rfl rfl ?_
  refine ab_getsF d_Str_checkIndex_2 (k1 70 rfl rfl) (fun v1 ev1 => ?_)
  refine ab_callS_a (As := [.int i, .int n, v1]) (rest := []) d_Str_checkIndex_5 (c_Pre_checkIndex ev1 h0 h1) (ab_mkC s_Pre_checkIndex (Nat.le_of_ble_eq_true rfl) (Nat.le_of_ble_eq_true rfl) (by decide) (by decide)) (k1 72 rfl rfl) t_Pre_checkIndex rfl (Nat.le_of_ble_eq_true rfl) (fun h3 q2 => ?_)
  subst q2
  refine ab_pop d_Str_checkIndex_8 rfl ?_
  exact ab_vret d_Str_checkIndex_9 rfl (Nat.le_refl _) (Nat.le_refl _) ⟨rfl, rfl⟩
def kb (i : Nat) : Int32 := (ab_byt.getD 0 []).getD i 0
theorem kb_all : (List.range 214).all (fun i => decide (((kb i &&& 255).toUInt32 % 65536).toInt32 = kb i ∧ (kb i).toUInt32.toUInt16.toUInt32.toInt32 = kb i)) = true := by decide +kernel
theorem kb_ok {i : Nat} (hi : i < 214) : ((kb i &&& 255).toUInt32 % 65536).toInt32 = kb i ∧ (kb i).toUInt32.toUInt16.toUInt32.toInt32 = kb i := of_decide_eq_true (List.all_eq_true.mp kb_all i (List.mem_range.mpr hi))
theorem kb_nar {i : Nat} (hi : i < 214) : narrow .char (.int (kb i)) = .int (kb i) := congrArg Value.int (kb_ok hi).2
theorem kb_at {i : Nat} (hi : i < 214) : ((((ab_byt.getD (UInt32.toNat 0) []).getD (nI i).toNatClampNeg 0 &&& 255).toUInt32 % 65536).toInt32) = kb i := by rw [nI_clamp (by omega)]; exact (kb_ok hi).1
set_option maxRecDepth 20000 in
set_option maxHeartbeats 2000000 in
theorem c_SL_charAt {h : List ab_E}  {i : Nat}  (hi : i < 214) : ab_M y_SL_charAt { frames := 2, cells := 0, slots := 0, locals := 80 } [.float 100, .int (nI i)] h (ab_A (some (.int (kb i))) (fun h1 => h = h1)) := by
  refine ab_of2 (lv := [some (.float 100), some (.int (nI i))]) 0 rfl (by decide +kernel) (Nat.le_of_ble_eq_true rfl) ?_
  refine ab_iload_n d_SL_charAt_0 rfl rfl ?_
  refine ab_aload_n d_SL_charAt_1 rfl rfl rfl ?_
  refine ab_alenK (k0 := 0) (v := 214) d_SL_charAt_2 (by decide) (by decide) (by decide) ?_
  refine ab_callS_v (As := [.int (nI i), .int 214]) (rest := []) d_SL_charAt_3 (c_Str_checkIndex (nI_pos (by omega)) (nI_lt hi (by decide))) (ab_mkC s_Str_checkIndex (Nat.le_of_ble_eq_true rfl) (Nat.le_of_ble_eq_true rfl) (by decide) (by decide)) (k1 67 rfl rfl) t_Str_checkIndex rfl (Nat.le_of_ble_eq_true rfl) (fun h2 q1 => ?_)
  subst q1
  refine ab_aload_n d_SL_charAt_6 rfl rfl rfl ?_
  refine ab_iload_n d_SL_charAt_7 rfl rfl ?_
  refine ab_baldK (k0 := 0) d_SL_charAt_8 (by decide) (by decide) (vp_in_nI hi (by decide)) rfl ?_
  refine ab_sipush (v := 255) d_SL_charAt_9 (by decide) ?_
  refine ab_iand d_SL_charAt_12 ?_
  refine ab_i2c d_SL_charAt_13 ?_
  rw [kb_at hi]
  exact ab_zret d_SL_charAt_14 rfl (kb_nar hi) (Nat.le_refl _) (Nat.le_refl _) ⟨rfl, rfl⟩
set_option maxRecDepth 20000 in
set_option maxHeartbeats 2000000 in
theorem c_Str_charAt {h : List ab_E}  {i : Nat}  (hi : i < 214) : ab_M y_Str_charAt { frames := 3, cells := 0, slots := 0, locals := 120 } [.float 0, .int (nI i)] h (ab_A (some (.int (kb i))) (fun h1 => h = h1)) := by
  refine ab_of2 (lv := [some (.float 0), some (.int (nI i))]) 0 rfl (by decide +kernel) (Nat.le_of_ble_eq_true rfl) ?_
  refine ab_aload_n d_Str_charAt_0 rfl rfl rfl ?_
  refine ab_callVK_a (k0 := 0) (As := []) (rest := []) d_Str_charAt_1 (by decide) (c_Str_isLatin1_0) (ab_mkC s_Str_isLatin1 (Nat.le_of_ble_eq_true rfl) (Nat.le_of_ble_eq_true rfl) (by decide) (by decide)) (k1 60 rfl rfl) i_Str_isLatin1 v_Str_isLatin1 rfl (Nat.le_of_ble_eq_true rfl) (fun h2 q1 => ?_)
  subst q1
  refine ab_if_eq (tgt := 16) d_Str_charAt_4 (by decide) (fun q3 => ?_) (fun q3 => ?_)
  · exact absurd q3 (by decide)
  · refine ab_aload_n d_Str_charAt_7 rfl rfl rfl ?_
    refine ab_getKv (k1 := 100) d_Str_charAt_8 (by decide) (by decide) (k4 227 rfl rfl) ?_
    refine ab_iload_n d_Str_charAt_11 rfl rfl ?_
    refine ab_callS_a (As := [.float 100, .int (nI i)]) (rest := []) d_Str_charAt_12 (c_SL_charAt hi) (ab_mkC s_SL_charAt (Nat.le_of_ble_eq_true rfl) (Nat.le_of_ble_eq_true rfl) (by decide) (by decide)) (k1 64 rfl rfl) t_SL_charAt rfl (Nat.le_of_ble_eq_true rfl) (fun h5 q4 => ?_)
    subst q4
    exact ab_zret d_Str_charAt_15 rfl (kb_nar hi) (Nat.le_refl _) (Nat.le_refl _) ⟨rfl, rfl⟩
