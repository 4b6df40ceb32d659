theorem mx0 {t : Int32} (h1 : ¬ t ≤ 0) (h2 : t ≤ 16) : (if (0 : Int32) < 0 - t + 1 then 0 - t + 1 else 0) = 0 := by
  rcases pk_ix t (n := 17) (by decide) with q | q | ⟨j, hj, e⟩
  · exact absurd (Int32.le_of_lt q) h1
  · exact absurd (Int32.le_trans q h2) (by decide)
  · subst e
    have : j = 0 ∨ j = 1 ∨ j = 2 ∨ j = 3 ∨ j = 4 ∨ j = 5 ∨ j = 6 ∨ j = 7 ∨ j = 8 ∨ j = 9 ∨ j = 10 ∨ j = 11 ∨ j = 12 ∨ j = 13 ∨ j = 14 ∨ j = 15 ∨ j = 16 := by omega
    rcases this with rfl | rfl | rfl | rfl | rfl | rfl | rfl | rfl | rfl | rfl | rfl | rfl | rfl | rfl | rfl | rfl | rfl
    · exact absurd (by decide) h1
    all_goals decide
def sq_refusal_0 (t : Int32) : Int32 := if t ≤ (0 : Int32) then ((-2)) else if t ≤ (16 : Int32) then (0) else ((-2))
set_option maxRecDepth 20000 in
set_option maxHeartbeats 2000000 in
theorem r_refusal_0 {h : List ab_E}  {n1 n2 n3 n4 n5 n6 n7 n8 n9 n10 n11 n12 n13 n14 n15 : Value} {x : Nat} {t : Int32}  (qo : h[x + 11]? = some (.inr (10, [.ref (x + 11 + 1), .int 0, .int 1, .int 0, .ref (x + 11 + 104), .int 0, .ref (x + 11 + 7), .ref (x + 11 + 105), .ref (x + 11 + 114), .ref (x + 11 + 115), .ref (x + 11 + 116), .ref (x + 11 + 117), .ref (x + 11 + 118), .ref (x + 11 + 119)]))) (ca : h[x + 11 + 114]? = some (.inl (.boolean, 256, .inl (fun _ => 0)))) (no : h[x + 11 + 1]? = some (.inr (7, [.int 0, n1, n2, n3, n4, n5, n6, n7, n8, n9, n10, n11, n12, n13, n14, n15])))  : ab_M y_Play_refusal { frames := 1, cells := 0, slots := 0, locals := 40 } [.ref (x + 11), .int 0, .int t] h (ab_A (some (.int (sq_refusal_0 t))) (fun h1 => h = h1)) := by
  refine ab_of2 (lv := [some (.ref (x + 11)), some (.int 0), some (.int t), none]) 1 rfl rfl (Nat.le_of_ble_eq_true rfl) ?_
  refine ab_iload_n d_Play_refusal_0 rfl rfl ?_
  refine ab_if_lt (tgt := 9) d_Play_refusal_1 (by decide) (fun q1 => by exact absurd q1 (by decide)) (fun q1 => ?_)
  refine ab_iload_n d_Play_refusal_4 rfl rfl ?_
  refine ab_iconst (v := 4) d_Play_refusal_5 (by decide) ?_
  refine ab_icmp_lt (tgt := 11) d_Play_refusal_6 (by decide) (fun q2 => ?_) (fun q2 => by exact absurd (by decide) q2)
  refine ab_iload_n d_Play_refusal_11 rfl rfl ?_
  refine ab_aload_n d_Play_refusal_12 rfl rfl rfl ?_
  refine ab_get (f := 1) d_Play_refusal_13 qo rfl (by decide) (k2 132 rfl rfl) rfl ?_
  refine ab_icmp_le (tgt := 33) d_Play_refusal_16 (by decide) (fun q3 => ?_) (fun q3 => ?_)
  · refine ab_bipush (v := (-2)) d_Play_refusal_33 (by decide) ?_
    exact ab_iret d_Play_refusal_35 rfl (Nat.le_refl _) (Nat.le_refl _) (by unfold sq_refusal_0; rw [if_pos q3]; exact ⟨rfl, rfl⟩)
  · refine ab_iload_n d_Play_refusal_19 rfl rfl ?_
    refine ab_aload_n d_Play_refusal_20 rfl rfl rfl ?_
    refine ab_get (f := 0) d_Play_refusal_21 qo rfl (by decide) (k2 130 rfl rfl) rfl ?_
    refine ab_get (f := 0) d_Play_refusal_24 no rfl (by decide) (k1 205 rfl rfl) rfl ?_
    refine ab_bipush (v := 16) d_Play_refusal_27 (by decide) ?_
    refine ab_iadd d_Play_refusal_29 ?_
    refine ab_topi (fun x4 ex4 => ?_)
    obtain rfl : x4 = 16 := ex4.trans (by decide)
    clear ex4
    refine ab_icmp_le (tgt := 36) d_Play_refusal_30 (by decide) (fun q5 => ?_) (fun q5 => ?_)
    · refine ab_iload_n d_Play_refusal_36 rfl rfl ?_
      refine ab_aload_n d_Play_refusal_37 rfl rfl rfl ?_
      refine ab_get (f := 0) d_Play_refusal_38 qo rfl (by decide) (k2 130 rfl rfl) rfl ?_
      refine ab_get (f := 0) d_Play_refusal_41 no rfl (by decide) (k1 205 rfl rfl) rfl ?_
      refine ab_icmp_le (tgt := 54) d_Play_refusal_44 (by decide) (fun q6 => by exact absurd q6 (by first | assumption | exact Int32.not_lt.mpr (by assumption) | exact Int32.not_le.mpr (by assumption))) (fun q6 => ?_)
      refine ab_aload_n d_Play_refusal_47 rfl rfl rfl ?_
      refine ab_get (f := 2) d_Play_refusal_48 qo rfl (by decide) (k2 134 rfl rfl) rfl ?_
      refine ab_goto (tgt := 63) d_Play_refusal_51 (by decide) ?_
      refine ab_istore_n (lv' := [some (.ref (x + 11)), some (.int 0), some (.int t), some (.int 1)]) d_Play_refusal_63 rfl (by decide) rfl ?_
      refine ab_iload_n d_Play_refusal_64 rfl rfl ?_
      refine ab_iload_n d_Play_refusal_65 rfl rfl ?_
      refine ab_ishr d_Play_refusal_66 ?_
      refine ab_topi (fun x7 ex7 => ?_)
      obtain rfl : x7 = 1 := ex7.trans (by decide)
      clear ex7
      refine ab_iconst (v := 1) d_Play_refusal_67 (by decide) ?_
      refine ab_iand d_Play_refusal_68 ?_
      refine ab_topi (fun x8 ex8 => ?_)
      obtain rfl : x8 = 1 := ex8.trans (by decide)
      clear ex8
      refine ab_if_ne (tgt := 75) d_Play_refusal_69 (by decide) (fun q9 => ?_) (fun q9 => by exact absurd q9 (by decide))
      refine ab_aload_n d_Play_refusal_75 rfl rfl rfl ?_
      refine ab_get (f := 8) d_Play_refusal_76 qo rfl (by decide) (k2 144 rfl rfl) rfl ?_
      refine ab_iload_n d_Play_refusal_79 rfl rfl ?_
      refine ab_iload_n d_Play_refusal_80 rfl rfl ?_
      refine ab_callS_a (As := [.int 0, .int t]) (rest := [.ref (x + 11 + 114)]) d_Play_refusal_81 (c_Play_slot) (ab_mkC s_Play_slot (Nat.le_of_ble_eq_true rfl) (Nat.le_of_ble_eq_true rfl) (by decide) (by decide)) (k6 181 rfl rfl) t_Play_slot rfl (Nat.le_of_ble_eq_true rfl) (fun h11 q10 => ?_)
      subst q10
      refine ab_zald d_Play_refusal_84 tZ ca (in_slot (by decide) (by decide)) ?_
      refine ab_topi (fun x12 ex12 => ?_)
      obtain rfl : x12 = 0 := ex12.trans rfl
      clear ex12
      refine ab_if_eq (tgt := 93) d_Play_refusal_85 (by decide) (fun q13 => ?_) (fun q13 => by exact absurd (by decide) q13)
      refine ab_iconst (v := 0) d_Play_refusal_93 (by decide) ?_
      exact ab_iret d_Play_refusal_94 rfl (Nat.le_refl _) (Nat.le_refl _) (by unfold sq_refusal_0; rw [if_neg q3]; rw [if_pos q5]; exact ⟨rfl, rfl⟩)
    · refine ab_bipush (v := (-2)) d_Play_refusal_33 (by decide) ?_
      exact ab_iret d_Play_refusal_35 rfl (Nat.le_refl _) (Nat.le_refl _) (by unfold sq_refusal_0; rw [if_neg q3]; rw [if_neg q5]; exact ⟨rfl, rfl⟩)
def sq_refusal_1 (t : Int32) : Int32 := if t ≤ (0 : Int32) then ((-2)) else if t ≤ (16 : Int32) then ((-3)) else ((-2))
set_option maxRecDepth 20000 in
set_option maxHeartbeats 2000000 in
theorem r_refusal_1 {h : List ab_E}  {n1 n2 n3 n4 n5 n6 n7 n8 n9 n10 n11 n12 n13 n14 n15 : Value} {x : Nat} {t : Int32}  (qo : h[x + 11]? = some (.inr (10, [.ref (x + 11 + 1), .int 0, .int 1, .int 0, .ref (x + 11 + 104), .int 0, .ref (x + 11 + 7), .ref (x + 11 + 105), .ref (x + 11 + 114), .ref (x + 11 + 115), .ref (x + 11 + 116), .ref (x + 11 + 117), .ref (x + 11 + 118), .ref (x + 11 + 119)]))) (ca : h[x + 11 + 114]? = some (.inl (.boolean, 256, .inl (fun _ => 0)))) (no : h[x + 11 + 1]? = some (.inr (7, [.int 0, n1, n2, n3, n4, n5, n6, n7, n8, n9, n10, n11, n12, n13, n14, n15])))  : ab_M y_Play_refusal { frames := 1, cells := 0, slots := 0, locals := 40 } [.ref (x + 11), .int 1, .int t] h (ab_A (some (.int (sq_refusal_1 t))) (fun h1 => h = h1)) := by
  refine ab_of2 (lv := [some (.ref (x + 11)), some (.int 1), some (.int t), none]) 1 rfl rfl (Nat.le_of_ble_eq_true rfl) ?_
  refine ab_iload_n d_Play_refusal_0 rfl rfl ?_
  refine ab_if_lt (tgt := 9) d_Play_refusal_1 (by decide) (fun q1 => by exact absurd q1 (by decide)) (fun q1 => ?_)
  refine ab_iload_n d_Play_refusal_4 rfl rfl ?_
  refine ab_iconst (v := 4) d_Play_refusal_5 (by decide) ?_
  refine ab_icmp_lt (tgt := 11) d_Play_refusal_6 (by decide) (fun q2 => ?_) (fun q2 => by exact absurd (by decide) q2)
  refine ab_iload_n d_Play_refusal_11 rfl rfl ?_
  refine ab_aload_n d_Play_refusal_12 rfl rfl rfl ?_
  refine ab_get (f := 1) d_Play_refusal_13 qo rfl (by decide) (k2 132 rfl rfl) rfl ?_
  refine ab_icmp_le (tgt := 33) d_Play_refusal_16 (by decide) (fun q3 => ?_) (fun q3 => ?_)
  · refine ab_bipush (v := (-2)) d_Play_refusal_33 (by decide) ?_
    exact ab_iret d_Play_refusal_35 rfl (Nat.le_refl _) (Nat.le_refl _) (by unfold sq_refusal_1; rw [if_pos q3]; exact ⟨rfl, rfl⟩)
  · refine ab_iload_n d_Play_refusal_19 rfl rfl ?_
    refine ab_aload_n d_Play_refusal_20 rfl rfl rfl ?_
    refine ab_get (f := 0) d_Play_refusal_21 qo rfl (by decide) (k2 130 rfl rfl) rfl ?_
    refine ab_get (f := 0) d_Play_refusal_24 no rfl (by decide) (k1 205 rfl rfl) rfl ?_
    refine ab_bipush (v := 16) d_Play_refusal_27 (by decide) ?_
    refine ab_iadd d_Play_refusal_29 ?_
    refine ab_topi (fun x4 ex4 => ?_)
    obtain rfl : x4 = 16 := ex4.trans (by decide)
    clear ex4
    refine ab_icmp_le (tgt := 36) d_Play_refusal_30 (by decide) (fun q5 => ?_) (fun q5 => ?_)
    · refine ab_iload_n d_Play_refusal_36 rfl rfl ?_
      refine ab_aload_n d_Play_refusal_37 rfl rfl rfl ?_
      refine ab_get (f := 0) d_Play_refusal_38 qo rfl (by decide) (k2 130 rfl rfl) rfl ?_
      refine ab_get (f := 0) d_Play_refusal_41 no rfl (by decide) (k1 205 rfl rfl) rfl ?_
      refine ab_icmp_le (tgt := 54) d_Play_refusal_44 (by decide) (fun q6 => by exact absurd q6 (by first | assumption | exact Int32.not_lt.mpr (by assumption) | exact Int32.not_le.mpr (by assumption))) (fun q6 => ?_)
      refine ab_aload_n d_Play_refusal_47 rfl rfl rfl ?_
      refine ab_get (f := 2) d_Play_refusal_48 qo rfl (by decide) (k2 134 rfl rfl) rfl ?_
      refine ab_goto (tgt := 63) d_Play_refusal_51 (by decide) ?_
      refine ab_istore_n (lv' := [some (.ref (x + 11)), some (.int 1), some (.int t), some (.int 1)]) d_Play_refusal_63 rfl (by decide) rfl ?_
      refine ab_iload_n d_Play_refusal_64 rfl rfl ?_
      refine ab_iload_n d_Play_refusal_65 rfl rfl ?_
      refine ab_ishr d_Play_refusal_66 ?_
      refine ab_topi (fun x7 ex7 => ?_)
      obtain rfl : x7 = 0 := ex7.trans (by decide)
      clear ex7
      refine ab_iconst (v := 1) d_Play_refusal_67 (by decide) ?_
      refine ab_iand d_Play_refusal_68 ?_
      refine ab_topi (fun x8 ex8 => ?_)
      obtain rfl : x8 = 0 := ex8.trans (by decide)
      clear ex8
      refine ab_if_ne (tgt := 75) d_Play_refusal_69 (by decide) (fun q9 => by exact absurd q9 (by decide)) (fun q9 => ?_)
      refine ab_bipush (v := (-3)) d_Play_refusal_72 (by decide) ?_
      exact ab_iret d_Play_refusal_74 rfl (Nat.le_refl _) (Nat.le_refl _) (by unfold sq_refusal_1; rw [if_neg q3]; rw [if_pos q5]; exact ⟨rfl, rfl⟩)
    · refine ab_bipush (v := (-2)) d_Play_refusal_33 (by decide) ?_
      exact ab_iret d_Play_refusal_35 rfl (Nat.le_refl _) (Nat.le_refl _) (by unfold sq_refusal_1; rw [if_neg q3]; rw [if_neg q5]; exact ⟨rfl, rfl⟩)
def sq_refusal_2 (t : Int32) : Int32 := if t ≤ (0 : Int32) then ((-2)) else if t ≤ (16 : Int32) then ((-3)) else ((-2))
set_option maxRecDepth 20000 in
set_option maxHeartbeats 2000000 in
theorem r_refusal_2 {h : List ab_E}  {n1 n2 n3 n4 n5 n6 n7 n8 n9 n10 n11 n12 n13 n14 n15 : Value} {x : Nat} {t : Int32}  (qo : h[x + 11]? = some (.inr (10, [.ref (x + 11 + 1), .int 0, .int 1, .int 0, .ref (x + 11 + 104), .int 0, .ref (x + 11 + 7), .ref (x + 11 + 105), .ref (x + 11 + 114), .ref (x + 11 + 115), .ref (x + 11 + 116), .ref (x + 11 + 117), .ref (x + 11 + 118), .ref (x + 11 + 119)]))) (ca : h[x + 11 + 114]? = some (.inl (.boolean, 256, .inl (fun _ => 0)))) (no : h[x + 11 + 1]? = some (.inr (7, [.int 0, n1, n2, n3, n4, n5, n6, n7, n8, n9, n10, n11, n12, n13, n14, n15])))  : ab_M y_Play_refusal { frames := 1, cells := 0, slots := 0, locals := 40 } [.ref (x + 11), .int 2, .int t] h (ab_A (some (.int (sq_refusal_2 t))) (fun h1 => h = h1)) := by
  refine ab_of2 (lv := [some (.ref (x + 11)), some (.int 2), some (.int t), none]) 1 rfl rfl (Nat.le_of_ble_eq_true rfl) ?_
  refine ab_iload_n d_Play_refusal_0 rfl rfl ?_
  refine ab_if_lt (tgt := 9) d_Play_refusal_1 (by decide) (fun q1 => by exact absurd q1 (by decide)) (fun q1 => ?_)
  refine ab_iload_n d_Play_refusal_4 rfl rfl ?_
  refine ab_iconst (v := 4) d_Play_refusal_5 (by decide) ?_
  refine ab_icmp_lt (tgt := 11) d_Play_refusal_6 (by decide) (fun q2 => ?_) (fun q2 => by exact absurd (by decide) q2)
  refine ab_iload_n d_Play_refusal_11 rfl rfl ?_
  refine ab_aload_n d_Play_refusal_12 rfl rfl rfl ?_
  refine ab_get (f := 1) d_Play_refusal_13 qo rfl (by decide) (k2 132 rfl rfl) rfl ?_
  refine ab_icmp_le (tgt := 33) d_Play_refusal_16 (by decide) (fun q3 => ?_) (fun q3 => ?_)
  · refine ab_bipush (v := (-2)) d_Play_refusal_33 (by decide) ?_
    exact ab_iret d_Play_refusal_35 rfl (Nat.le_refl _) (Nat.le_refl _) (by unfold sq_refusal_2; rw [if_pos q3]; exact ⟨rfl, rfl⟩)
  · refine ab_iload_n d_Play_refusal_19 rfl rfl ?_
    refine ab_aload_n d_Play_refusal_20 rfl rfl rfl ?_
    refine ab_get (f := 0) d_Play_refusal_21 qo rfl (by decide) (k2 130 rfl rfl) rfl ?_
    refine ab_get (f := 0) d_Play_refusal_24 no rfl (by decide) (k1 205 rfl rfl) rfl ?_
    refine ab_bipush (v := 16) d_Play_refusal_27 (by decide) ?_
    refine ab_iadd d_Play_refusal_29 ?_
    refine ab_topi (fun x4 ex4 => ?_)
    obtain rfl : x4 = 16 := ex4.trans (by decide)
    clear ex4
    refine ab_icmp_le (tgt := 36) d_Play_refusal_30 (by decide) (fun q5 => ?_) (fun q5 => ?_)
    · refine ab_iload_n d_Play_refusal_36 rfl rfl ?_
      refine ab_aload_n d_Play_refusal_37 rfl rfl rfl ?_
      refine ab_get (f := 0) d_Play_refusal_38 qo rfl (by decide) (k2 130 rfl rfl) rfl ?_
      refine ab_get (f := 0) d_Play_refusal_41 no rfl (by decide) (k1 205 rfl rfl) rfl ?_
      refine ab_icmp_le (tgt := 54) d_Play_refusal_44 (by decide) (fun q6 => by exact absurd q6 (by first | assumption | exact Int32.not_lt.mpr (by assumption) | exact Int32.not_le.mpr (by assumption))) (fun q6 => ?_)
      refine ab_aload_n d_Play_refusal_47 rfl rfl rfl ?_
      refine ab_get (f := 2) d_Play_refusal_48 qo rfl (by decide) (k2 134 rfl rfl) rfl ?_
      refine ab_goto (tgt := 63) d_Play_refusal_51 (by decide) ?_
      refine ab_istore_n (lv' := [some (.ref (x + 11)), some (.int 2), some (.int t), some (.int 1)]) d_Play_refusal_63 rfl (by decide) rfl ?_
      refine ab_iload_n d_Play_refusal_64 rfl rfl ?_
      refine ab_iload_n d_Play_refusal_65 rfl rfl ?_
      refine ab_ishr d_Play_refusal_66 ?_
      refine ab_topi (fun x7 ex7 => ?_)
      obtain rfl : x7 = 0 := ex7.trans (by decide)
      clear ex7
      refine ab_iconst (v := 1) d_Play_refusal_67 (by decide) ?_
      refine ab_iand d_Play_refusal_68 ?_
      refine ab_topi (fun x8 ex8 => ?_)
      obtain rfl : x8 = 0 := ex8.trans (by decide)
      clear ex8
      refine ab_if_ne (tgt := 75) d_Play_refusal_69 (by decide) (fun q9 => by exact absurd q9 (by decide)) (fun q9 => ?_)
      refine ab_bipush (v := (-3)) d_Play_refusal_72 (by decide) ?_
      exact ab_iret d_Play_refusal_74 rfl (Nat.le_refl _) (Nat.le_refl _) (by unfold sq_refusal_2; rw [if_neg q3]; rw [if_pos q5]; exact ⟨rfl, rfl⟩)
    · refine ab_bipush (v := (-2)) d_Play_refusal_33 (by decide) ?_
      exact ab_iret d_Play_refusal_35 rfl (Nat.le_refl _) (Nat.le_refl _) (by unfold sq_refusal_2; rw [if_neg q3]; rw [if_neg q5]; exact ⟨rfl, rfl⟩)
def sq_refusal_3 (t : Int32) : Int32 := if t ≤ (0 : Int32) then ((-2)) else if t ≤ (16 : Int32) then ((-3)) else ((-2))
set_option maxRecDepth 20000 in
set_option maxHeartbeats 2000000 in
theorem r_refusal_3 {h : List ab_E}  {n1 n2 n3 n4 n5 n6 n7 n8 n9 n10 n11 n12 n13 n14 n15 : Value} {x : Nat} {t : Int32}  (qo : h[x + 11]? = some (.inr (10, [.ref (x + 11 + 1), .int 0, .int 1, .int 0, .ref (x + 11 + 104), .int 0, .ref (x + 11 + 7), .ref (x + 11 + 105), .ref (x + 11 + 114), .ref (x + 11 + 115), .ref (x + 11 + 116), .ref (x + 11 + 117), .ref (x + 11 + 118), .ref (x + 11 + 119)]))) (ca : h[x + 11 + 114]? = some (.inl (.boolean, 256, .inl (fun _ => 0)))) (no : h[x + 11 + 1]? = some (.inr (7, [.int 0, n1, n2, n3, n4, n5, n6, n7, n8, n9, n10, n11, n12, n13, n14, n15])))  : ab_M y_Play_refusal { frames := 1, cells := 0, slots := 0, locals := 40 } [.ref (x + 11), .int 3, .int t] h (ab_A (some (.int (sq_refusal_3 t))) (fun h1 => h = h1)) := by
  refine ab_of2 (lv := [some (.ref (x + 11)), some (.int 3), some (.int t), none]) 1 rfl rfl (Nat.le_of_ble_eq_true rfl) ?_
  refine ab_iload_n d_Play_refusal_0 rfl rfl ?_
  refine ab_if_lt (tgt := 9) d_Play_refusal_1 (by decide) (fun q1 => by exact absurd q1 (by decide)) (fun q1 => ?_)
  refine ab_iload_n d_Play_refusal_4 rfl rfl ?_
  refine ab_iconst (v := 4) d_Play_refusal_5 (by decide) ?_
  refine ab_icmp_lt (tgt := 11) d_Play_refusal_6 (by decide) (fun q2 => ?_) (fun q2 => by exact absurd (by decide) q2)
  refine ab_iload_n d_Play_refusal_11 rfl rfl ?_
  refine ab_aload_n d_Play_refusal_12 rfl rfl rfl ?_
  refine ab_get (f := 1) d_Play_refusal_13 qo rfl (by decide) (k2 132 rfl rfl) rfl ?_
  refine ab_icmp_le (tgt := 33) d_Play_refusal_16 (by decide) (fun q3 => ?_) (fun q3 => ?_)
  · refine ab_bipush (v := (-2)) d_Play_refusal_33 (by decide) ?_
    exact ab_iret d_Play_refusal_35 rfl (Nat.le_refl _) (Nat.le_refl _) (by unfold sq_refusal_3; rw [if_pos q3]; exact ⟨rfl, rfl⟩)
  · refine ab_iload_n d_Play_refusal_19 rfl rfl ?_
    refine ab_aload_n d_Play_refusal_20 rfl rfl rfl ?_
    refine ab_get (f := 0) d_Play_refusal_21 qo rfl (by decide) (k2 130 rfl rfl) rfl ?_
    refine ab_get (f := 0) d_Play_refusal_24 no rfl (by decide) (k1 205 rfl rfl) rfl ?_
    refine ab_bipush (v := 16) d_Play_refusal_27 (by decide) ?_
    refine ab_iadd d_Play_refusal_29 ?_
    refine ab_topi (fun x4 ex4 => ?_)
    obtain rfl : x4 = 16 := ex4.trans (by decide)
    clear ex4
    refine ab_icmp_le (tgt := 36) d_Play_refusal_30 (by decide) (fun q5 => ?_) (fun q5 => ?_)
    · refine ab_iload_n d_Play_refusal_36 rfl rfl ?_
      refine ab_aload_n d_Play_refusal_37 rfl rfl rfl ?_
      refine ab_get (f := 0) d_Play_refusal_38 qo rfl (by decide) (k2 130 rfl rfl) rfl ?_
      refine ab_get (f := 0) d_Play_refusal_41 no rfl (by decide) (k1 205 rfl rfl) rfl ?_
      refine ab_icmp_le (tgt := 54) d_Play_refusal_44 (by decide) (fun q6 => by exact absurd q6 (by first | assumption | exact Int32.not_lt.mpr (by assumption) | exact Int32.not_le.mpr (by assumption))) (fun q6 => ?_)
      refine ab_aload_n d_Play_refusal_47 rfl rfl rfl ?_
      refine ab_get (f := 2) d_Play_refusal_48 qo rfl (by decide) (k2 134 rfl rfl) rfl ?_
      refine ab_goto (tgt := 63) d_Play_refusal_51 (by decide) ?_
      refine ab_istore_n (lv' := [some (.ref (x + 11)), some (.int 3), some (.int t), some (.int 1)]) d_Play_refusal_63 rfl (by decide) rfl ?_
      refine ab_iload_n d_Play_refusal_64 rfl rfl ?_
      refine ab_iload_n d_Play_refusal_65 rfl rfl ?_
      refine ab_ishr d_Play_refusal_66 ?_
      refine ab_topi (fun x7 ex7 => ?_)
      obtain rfl : x7 = 0 := ex7.trans (by decide)
      clear ex7
      refine ab_iconst (v := 1) d_Play_refusal_67 (by decide) ?_
      refine ab_iand d_Play_refusal_68 ?_
      refine ab_topi (fun x8 ex8 => ?_)
      obtain rfl : x8 = 0 := ex8.trans (by decide)
      clear ex8
      refine ab_if_ne (tgt := 75) d_Play_refusal_69 (by decide) (fun q9 => by exact absurd q9 (by decide)) (fun q9 => ?_)
      refine ab_bipush (v := (-3)) d_Play_refusal_72 (by decide) ?_
      exact ab_iret d_Play_refusal_74 rfl (Nat.le_refl _) (Nat.le_refl _) (by unfold sq_refusal_3; rw [if_neg q3]; rw [if_pos q5]; exact ⟨rfl, rfl⟩)
    · refine ab_bipush (v := (-2)) d_Play_refusal_33 (by decide) ?_
      exact ab_iret d_Play_refusal_35 rfl (Nat.le_refl _) (Nat.le_refl _) (by unfold sq_refusal_3; rw [if_neg q3]; rw [if_neg q5]; exact ⟨rfl, rfl⟩)
set_option maxRecDepth 20000 in
set_option maxHeartbeats 2000000 in
theorem r_firstWrong {h : List ab_E}  {q1 q2 q3 q4 q5 q6 q7 q8 q9 q10 q11 q12 q13 : Value} {n1 n2 n3 n4 n5 n6 n7 n8 n9 n10 n11 n12 n13 n14 n15 : Value} {x : Nat} {t : Int32}  (qo : h[x + 11]? = some (.inr (10, [.ref (x + 11 + 1), q1, q2, q3, q4, q5, q6, q7, q8, q9, q10, q11, q12, q13]))) (no : h[x + 11 + 1]? = some (.inr (7, [.int 0, n1, n2, n3, n4, n5, n6, n7, n8, n9, n10, n11, n12, n13, n14, n15]))) (h1 : ¬ t ≤ 0) : ab_M y_Play_firstWrong { frames := 0, cells := 0, slots := 0, locals := 0 } [.ref (x + 11), .int 0, .int t] h (ab_A (some (.int (t))) (fun h1 => h = h1)) := by
  refine ab_of2 (lv := [some (.ref (x + 11)), some (.int 0), some (.int t), none]) 1 rfl rfl (Nat.le_of_ble_eq_true rfl) ?_
  refine ab_iload_n d_Play_firstWrong_0 rfl rfl ?_
  refine ab_istore_n (lv' := [some (.ref (x + 11)), some (.int 0), some (.int t), some (.int t)]) d_Play_firstWrong_1 rfl (by decide) rfl ?_
  refine ab_iload_n d_Play_firstWrong_2 rfl rfl ?_
  refine ab_aload_n d_Play_firstWrong_3 rfl rfl rfl ?_
  refine ab_get (f := 0) d_Play_firstWrong_4 qo rfl (by decide) (k2 130 rfl rfl) rfl ?_
  refine ab_get (f := 0) d_Play_firstWrong_7 no rfl (by decide) (k1 205 rfl rfl) rfl ?_
  refine ab_icmp_gt (tgt := 41) d_Play_firstWrong_10 (by decide) (fun q1 => ?_) (fun q1 => ?_)
  · refine ab_iload_n d_Play_firstWrong_41 rfl rfl ?_
    exact ab_iret d_Play_firstWrong_42 rfl (Nat.le_refl _) (Nat.le_refl _) (by exact ⟨rfl, rfl⟩)
  · exact absurd (Int32.not_le.mp h1) q1
set_option maxRecDepth 20000 in
set_option maxHeartbeats 2000000 in
theorem r_confirm {h : List ab_E}  {q2 q3 q4 q5 q6 q7 q8 q9 q10 q11 q12 q13 : Value} {n1 n2 n3 n4 n5 n6 n7 n8 n9 n10 n11 n12 n13 n14 n15 : Value} {x : Nat}  (qo : h[x + 11]? = some (.inr (10, [.ref (x + 11 + 1), .int 0, q2, q3, q4, q5, q6, q7, q8, q9, q10, q11, q12, q13]))) (no : h[x + 11 + 1]? = some (.inr (7, [.int 0, n1, n2, n3, n4, n5, n6, n7, n8, n9, n10, n11, n12, n13, n14, n15])))  : ab_M y_Play_confirm { frames := 0, cells := 0, slots := 0, locals := 0 } [.ref (x + 11)] h (ab_A none (fun h1 => h = h1)) := by
  refine ab_of2 (lv := [some (.ref (x + 11)), none, none, none]) 3 rfl rfl (Nat.le_of_ble_eq_true rfl) ?_
  refine ab_iconst (v := 0) d_Play_confirm_0 (by decide) ?_
  refine ab_istore_n (lv' := [some (.ref (x + 11)), some (.int 0), none, none]) d_Play_confirm_1 rfl (by decide) rfl ?_
  refine ab_iload_n d_Play_confirm_2 rfl rfl ?_
  refine ab_bipush (v := 16) d_Play_confirm_3 (by decide) ?_
  refine ab_icmp_ge (tgt := 138) d_Play_confirm_5 (by decide) (fun q1 => by exact absurd q1 (by decide)) (fun q1 => ?_)
  refine ab_aload_n d_Play_confirm_8 rfl rfl rfl ?_
  refine ab_get (f := 1) d_Play_confirm_9 qo rfl (by decide) (k2 132 rfl rfl) rfl ?_
  refine ab_aload_n d_Play_confirm_12 rfl rfl rfl ?_
  refine ab_get (f := 0) d_Play_confirm_13 qo rfl (by decide) (k2 130 rfl rfl) rfl ?_
  refine ab_get (f := 0) d_Play_confirm_16 no rfl (by decide) (k1 205 rfl rfl) rfl ?_
  refine ab_icmp_ge (tgt := 138) d_Play_confirm_19 (by decide) (fun q2 => ?_) (fun q2 => by exact absurd (by decide) q2)
  exact ab_vret d_Play_confirm_138 rfl (Nat.le_refl _) (Nat.le_refl _) (by exact ⟨rfl, rfl⟩)
set_option maxRecDepth 20000 in
set_option maxHeartbeats 2000000 in
theorem r_accept {h : List ab_E}  {cf : Nat → Int32} {bf : Nat → Int32} {n1 n2 n3 n4 n5 n6 n7 n8 n9 n10 n11 n12 n13 n14 n15 : Value} {x g : Nat} {t v : Int32}  (qo : h[x + 11]? = some (.inr (10, [.ref (x + 11 + 1), .int 0, .int 1, .int 0, .ref (x + 11 + 104), .int 0, .ref (x + 11 + 7), .ref (x + 11 + 105), .ref (x + 11 + 114), .ref (x + 11 + 115), .ref (x + 11 + 116), .ref (x + 11 + 117), .ref (x + 11 + 118), .ref (x + 11 + 119)]))) (ca : h[x + 11 + 114]? = some (.inl (.boolean, 256, .inl cf))) (ba : h[x + 11 + 115]? = some (.inl (.int, 256, .inl bf))) (no : h[x + 11 + 1]? = some (.inr (7, [.int 0, n1, n2, n3, n4, n5, n6, n7, n8, n9, n10, n11, n12, n13, n14, n15]))) (h1 : ¬ t ≤ 0) (h2 : t ≤ 16) : ab_M y_Play_accept { frames := 1, cells := 0, slots := 0, locals := 40 } [.ref (x + 11), .ref g, .int 0, .int t, .int v] h (ab_A (some (.int (0))) (fun h1 => ab_fr (in_lo x) h h1)) := by
  refine ab_of2 (lv := [some (.ref (x + 11)), some (.ref g), some (.int 0), some (.int t), some (.int v), none, none, none, none]) 4 rfl rfl (Nat.le_of_ble_eq_true rfl) ?_
  refine ab_aload_n d_Play_accept_0 rfl rfl rfl ?_
  refine ab_get (f := 8) d_Play_accept_1 qo rfl (by decide) (k2 144 rfl rfl) rfl ?_
  refine ab_iload_n d_Play_accept_4 rfl rfl ?_
  refine ab_iload_n d_Play_accept_5 rfl rfl ?_
  refine ab_callS_a (As := [.int 0, .int t]) (rest := [.ref (x + 11 + 114)]) d_Play_accept_6 (c_Play_slot) (ab_mkC s_Play_slot (Nat.le_of_ble_eq_true rfl) (Nat.le_of_ble_eq_true rfl) (by decide) (by decide)) (k6 181 rfl rfl) t_Play_slot rfl (Nat.le_of_ble_eq_true rfl) (fun h2 q1 => ?_)
  subst q1
  refine ab_iconst (v := 1) d_Play_accept_9 (by decide) ?_
  refine ab_zast d_Play_accept_10 tZ ca (in_slot (by decide) (by decide)) ?_
  refine ab_gen (fun h3 e4 => ?_)
  have c5 : h3[x+11]? = some (.inr (10, [.ref (x + 11 + 1), .int 0, .int 1, .int 0, .ref (x + 11 + 104), .int 0, .ref (x + 11 + 7), .ref (x + 11 + 105), .ref (x + 11 + 114), .ref (x + 11 + 115), .ref (x + 11 + 116), .ref (x + 11 + 117), .ref (x + 11 + 118), .ref (x + 11 + 119)])) := ab_other e4 (by omega) qo
  have c6 : h3[x+11+114]? = some (.inl (.boolean, 256, .inl (upd cf ((sp_Play_slot 0 t)).toNatClampNeg (vp_nar .boolean 1)))) := ab_self e4 ca
  have c7 : h3[x+11+115]? = some (.inl (.int, 256, .inl bf)) := ab_other e4 (by omega) ba
  have c8 : h3[x+11+1]? = some (.inr (7, [.int 0, n1, n2, n3, n4, n5, n6, n7, n8, n9, n10, n11, n12, n13, n14, n15])) := ab_other e4 (by omega) no
  have fr9 : ab_fr (in_lo x) h h3 := ab_fr_set (ab_fr_rf _ _) e4 (by (show _ < _; omega))
  clear e4
  obtain ⟨y10, c11⟩ : ∃ f : Nat → Int32, h3[x+11+114]? = some (.inl (.boolean, 256, .inl f)) := ⟨_, c6⟩
  clear c6
  refine ab_aload_n d_Play_accept_11 rfl rfl rfl ?_
  refine ab_get (f := 9) d_Play_accept_12 c5 rfl (by decide) (k2 145 rfl rfl) rfl ?_
  refine ab_iload_n d_Play_accept_15 rfl rfl ?_
  refine ab_iload_n d_Play_accept_16 rfl rfl ?_
  refine ab_callS_a (As := [.int 0, .int t]) (rest := [.ref (x + 11 + 115)]) d_Play_accept_17 (c_Play_slot) (ab_mkC s_Play_slot (Nat.le_of_ble_eq_true rfl) (Nat.le_of_ble_eq_true rfl) (by decide) (by decide)) (k6 181 rfl rfl) t_Play_slot rfl (Nat.le_of_ble_eq_true rfl) (fun h13 q12 => ?_)
  subst q12
  refine ab_iload d_Play_accept_20 rfl ?_
  refine ab_iast d_Play_accept_22 tI c7 (in_slot (by decide) (by decide)) ?_
  refine ab_gen (fun h14 e15 => ?_)
  have c16 : h14[x+11]? = some (.inr (10, [.ref (x + 11 + 1), .int 0, .int 1, .int 0, .ref (x + 11 + 104), .int 0, .ref (x + 11 + 7), .ref (x + 11 + 105), .ref (x + 11 + 114), .ref (x + 11 + 115), .ref (x + 11 + 116), .ref (x + 11 + 117), .ref (x + 11 + 118), .ref (x + 11 + 119)])) := ab_other e15 (by omega) c5
  have c17 : h14[x+11+114]? = some (.inl (.boolean, 256, .inl y10)) := ab_other e15 (by omega) c11
  have c18 : h14[x+11+115]? = some (.inl (.int, 256, .inl (upd bf ((sp_Play_slot 0 t)).toNatClampNeg v))) := ab_self e15 c7
  have c19 : h14[x+11+1]? = some (.inr (7, [.int 0, n1, n2, n3, n4, n5, n6, n7, n8, n9, n10, n11, n12, n13, n14, n15])) := ab_other e15 (by omega) c8
  have fr20 : ab_fr (in_lo x) h h14 := ab_fr_set fr9 e15 (by (show _ < _; omega))
  clear c5 c11 c7 c8 fr9 e15
  try clear h3
  obtain ⟨y21, c22⟩ : ∃ f : Nat → Int32, h14[x+11+115]? = some (.inl (.int, 256, .inl f)) := ⟨_, c18⟩
  clear c18
  refine ab_aload_n d_Play_accept_23 rfl rfl rfl ?_
  refine ab_get (f := 0) d_Play_accept_24 c16 rfl (by decide) (k2 130 rfl rfl) rfl ?_
  refine ab_get (f := 0) d_Play_accept_27 c19 rfl (by decide) (k1 205 rfl rfl) rfl ?_
  refine ab_istore (lv' := [some (.ref (x + 11)), some (.ref g), some (.int 0), some (.int t), some (.int v), some (.int 0), none, none, none]) d_Play_accept_30 (by decide) rfl ?_
  refine ab_aload_n d_Play_accept_32 rfl rfl rfl ?_
  refine ab_iload_n d_Play_accept_33 rfl rfl ?_
  refine ab_iload_n d_Play_accept_34 rfl rfl ?_
  refine ab_callV_a (As := [.int 0, .int t]) (rest := []) d_Play_accept_35 (r_firstWrong c16 c19 h1) (ab_mkC s_Play_firstWrong (Nat.le_of_ble_eq_true rfl) (Nat.le_of_ble_eq_true rfl) (by decide) (by decide)) (k7 154 rfl rfl) i_Play_firstWrong v_Play_firstWrong c16 rfl rfl (Nat.le_of_ble_eq_true rfl) (fun h24 q23 => ?_)
  subst q23
  refine ab_istore (lv' := [some (.ref (x + 11)), some (.ref g), some (.int 0), some (.int t), some (.int v), some (.int 0), some (.int t), none, none]) d_Play_accept_38 (by decide) rfl ?_
  refine ab_iconst (v := 0) d_Play_accept_40 (by decide) ?_
  refine ab_iload d_Play_accept_41 rfl ?_
  refine ab_iload d_Play_accept_43 rfl ?_
  refine ab_isub d_Play_accept_45 ?_
  refine ab_iconst (v := 1) d_Play_accept_46 (by decide) ?_
  refine ab_iadd d_Play_accept_47 ?_
  refine ab_callS_a (As := [.int 0, .int ((0 - t) + 1)]) (rest := []) d_Play_accept_48 (c_Math_max) (ab_mkC s_Math_max (Nat.le_of_ble_eq_true rfl) (Nat.le_of_ble_eq_true rfl) (by decide) (by decide)) (k7 158 rfl rfl) t_Math_max rfl (Nat.le_of_ble_eq_true rfl) (fun h26 q25 => ?_)
  subst q25
  refine ab_topi (fun x27 ex27 => ?_)
  obtain rfl : x27 = 0 := ex27.trans (mx0 h1 h2)
  clear ex27
  refine ab_istore (lv' := [some (.ref (x + 11)), some (.ref g), some (.int 0), some (.int t), some (.int v), some (.int 0), some (.int t), some (.int 0), none]) d_Play_accept_51 (by decide) rfl ?_
  refine ab_iload d_Play_accept_53 rfl ?_
  refine ab_if_le (tgt := 77) d_Play_accept_55 (by decide) (fun q28 => ?_) (fun q28 => by exact absurd (by decide) q28)
  refine ab_iconst (v := 0) d_Play_accept_77 (by decide) ?_
  refine ab_istore (lv' := [some (.ref (x + 11)), some (.ref g), some (.int 0), some (.int t), some (.int v), some (.int 0), some (.int t), some (.int 0), some (.int 0)]) d_Play_accept_78 (by decide) rfl ?_
  refine ab_iload d_Play_accept_80 rfl ?_
  refine ab_iload d_Play_accept_82 rfl ?_
  refine ab_icmp_ge (tgt := 113) d_Play_accept_84 (by decide) (fun q29 => ?_) (fun q29 => by exact absurd (by decide) q29)
  refine ab_aload_n d_Play_accept_113 rfl rfl rfl ?_
  refine ab_dup d_Play_accept_114 rfl ?_
  refine ab_get (f := 3) d_Play_accept_115 c16 rfl (by decide) (k2 136 rfl rfl) rfl ?_
  refine ab_iload d_Play_accept_118 rfl ?_
  refine ab_iadd d_Play_accept_120 ?_
  refine ab_topi (fun x30 ex30 => ?_)
  obtain rfl : x30 = 0 := ex30.trans (by decide)
  clear ex30
  refine ab_put (f := 3) d_Play_accept_121 c16 rfl (by decide) (k2 136 rfl rfl) rfl rfl (fun _ => rfl) (fun _ => rfl) (Nat.le_of_ble_eq_true rfl) ?_
  show ab_V _ _ _ _ _ _ _ 124 [some (.ref (x + 11)), some (.ref g), some (.int 0), some (.int t), some (.int v), some (.int 0), some (.int t), some (.int 0), some (.int 0)] [] (h14.set (x+11) (.inr (10, [.ref (x + 11 + 1), .int 0, .int 1, .int 0, .ref (x + 11 + 104), .int 0, .ref (x + 11 + 7), .ref (x + 11 + 105), .ref (x + 11 + 114), .ref (x + 11 + 115), .ref (x + 11 + 116), .ref (x + 11 + 117), .ref (x + 11 + 118), .ref (x + 11 + 119)])))
  refine ab_gen (fun h31 e32 => ?_)
  have c33 : h31[x+11]? = some (.inr (10, [.ref (x + 11 + 1), .int 0, .int 1, .int 0, .ref (x + 11 + 104), .int 0, .ref (x + 11 + 7), .ref (x + 11 + 105), .ref (x + 11 + 114), .ref (x + 11 + 115), .ref (x + 11 + 116), .ref (x + 11 + 117), .ref (x + 11 + 118), .ref (x + 11 + 119)])) := ab_self e32 c16
  have c34 : h31[x+11+114]? = some (.inl (.boolean, 256, .inl y10)) := ab_other e32 (by omega) c17
  have c35 : h31[x+11+115]? = some (.inl (.int, 256, .inl y21)) := ab_other e32 (by omega) c22
  have c36 : h31[x+11+1]? = some (.inr (7, [.int 0, n1, n2, n3, n4, n5, n6, n7, n8, n9, n10, n11, n12, n13, n14, n15])) := ab_other e32 (by omega) c19
  have fr37 : ab_fr (in_lo x) h h31 := ab_fr_set fr20 e32 (by (show _ < _; omega))
  clear c16 c17 c22 c19 fr20 e32
  try clear h14
  refine ab_aload_n d_Play_accept_124 rfl rfl rfl ?_
  refine ab_callV_v (As := []) (rest := []) d_Play_accept_125 (r_confirm c33 c36) (ab_mkC s_Play_confirm (Nat.le_of_ble_eq_true rfl) (Nat.le_of_ble_eq_true rfl) (by decide) (by decide)) (k7 130 rfl rfl) i_Play_confirm v_Play_confirm c33 rfl rfl (Nat.le_of_ble_eq_true rfl) (fun h39 q38 => ?_)
  subst q38
  refine ab_iload d_Play_accept_128 rfl ?_
  exact ab_iret d_Play_accept_130 rfl (Nat.le_refl _) (Nat.le_refl _) (by exact ⟨rfl, fr37⟩)
def sq_W_input_0 (t : Int32) (v : Int32) : Int32 := if t ≤ 0 then ((-2)) else if ¬ t ≤ 16 then ((-2)) else (0)
set_option maxRecDepth 20000 in
set_option maxHeartbeats 2000000 in
theorem f_W_input_0 {h : List ab_E}    {x : Nat} {w t v : Int32}    (h0 : at_W0 h x w) : ab_M y_W_input { frames := 2, cells := 0, slots := 0, locals := 80 } [.ref x, .int 0, .int t, .int v] h (ab_A (some (.int (sq_W_input_0 t v))) (fun h1 => ab_fr (in_lo x) h h1)) := by
  obtain ⟨hW, hL, hRd, hB, ⟨hP, hN, hBe, hWs, hTk, hRw⟩, hSt, ⟨hG, hG1, hGc, hG2, hG3, hGe, hG4, hG5⟩, ⟨hH, hH1, hHc, hH2, hH3, hHe, hH4, hH5⟩⟩ := h0
  have hW0 := hW; have gwo := hW
  replace gwo : h[x]? = some (.inr (0, [.ref (x + 1), .ref (x + 8), .ref (x + 11), .ref (x + 131), .ref (x + 133), .ref (x + 325), .int 0, .int (s0_W w 7), .int 0])) := gwo
  have hP0 := hP; obtain ⟨gpo, gp4, gp8, gp9, gp10, gp11, gp12, gp13⟩ := hP
  replace gpo : h[x + 11]? = some (.inr (10, [.ref (x + 11 + 1), .int 0, .int 1, .int 0, .ref (x + 11 + 104), .int 0, .ref (x + 11 + 7), .ref (x + 11 + 105), .ref (x + 11 + 114), .ref (x + 11 + 115), .ref (x + 11 + 116), .ref (x + 11 + 117), .ref (x + 11 + 118), .ref (x + 11 + 119)])) := gpo
  replace gp4 : h[x + 11 + 104]? = some (.inl (.int, 256, .inl (fun _ => 0))) := gp4
  replace gp8 : h[x + 11 + 114]? = some (.inl (.boolean, 256, .inl (fun _ => 0))) := gp8
  replace gp9 : h[x + 11 + 115]? = some (.inl (.int, 256, .inl (fun _ => 0))) := gp9
  replace gp10 : h[x + 11 + 116]? = some (.inl (.int, 4, .inl (fun _ => 0))) := gp10
  replace gp11 : h[x + 11 + 117]? = some (.inl (.int, 16, .inl (fun _ => 0))) := gp11
  replace gp12 : h[x + 11 + 118]? = some (.inl (.int, 64, .inl (fun _ => 0))) := gp12
  replace gp13 : h[x + 11 + 119]? = some (.inl (.int, 4, .inl (fun _ => 0))) := gp13
  have hN0 := hN; obtain ⟨gno, gn7, gn8, gn11, gn12, gn14⟩ := hN
  replace gno : h[x + 11 + 1]? = some (.inr (7, [.int 0, .int 0, .int 0, .int 0, .int 0, .int 0, .int 0, .ref (x + 11 + 1 + 1), .ref (x + 11 + 1 + 2), .int 0, .int 0, .ref (x + 11 + 1 + 3), .ref (x + 11 + 1 + 4), .int 0, .ref (x + 11 + 1 + 5), .int 0])) := gno
  replace gn7 : h[x + 11 + 1 + 1]? = some (.inl (.int, 256, .inl (fun _ => 0))) := gn7
  replace gn8 : h[x + 11 + 1 + 2]? = some (.inl (.int, 256, .inl (a0_World 8))) := gn8
  replace gn11 : h[x + 11 + 1 + 3]? = some (.inl (.int, 12288, .inl (fun _ => 0))) := gn11
  replace gn12 : h[x + 11 + 1 + 4]? = some (.inl (.int, 1792, .inl (fun _ => 0))) := gn12
  replace gn14 : h[x + 11 + 1 + 5]? = some (.inl (.int, 32, .inl (fun _ => 0))) := gn14
  refine ab_of2 (lv := [some (.ref x), some (.int 0), some (.int t), some (.int v), none]) 1 rfl rfl (Nat.le_of_ble_eq_true rfl) ?_
  refine ab_aload_n d_W_input_0 rfl rfl rfl ?_
  refine ab_get (f := 2) d_W_input_1 gwo rfl (by decide) (k3 159 rfl rfl) rfl ?_
  refine ab_iload_n d_W_input_4 rfl rfl ?_
  refine ab_iload_n d_W_input_5 rfl rfl ?_
  refine ab_callV_a (As := [.int 0, .int t]) (rest := []) d_W_input_6 (r_refusal_0 gpo gp8 gno) (ab_mkC s_Play_refusal (Nat.le_of_ble_eq_true rfl) (Nat.le_of_ble_eq_true rfl) (by decide) (by decide)) (k7 146 rfl rfl) i_Play_refusal v_Play_refusal gpo rfl rfl (Nat.le_of_ble_eq_true rfl) (fun h2 q1 => ?_)
  subst q1
  by_cases t3 : t ≤ 0
  · refine ab_topi (fun x4 ex4 => ?_)
    obtain rfl : x4 = (-2) := ex4.trans (by unfold sq_refusal_0; rw [if_pos t3])
    clear ex4
    refine ab_istore (lv' := [some (.ref x), some (.int 0), some (.int t), some (.int v), some (.int (-2))]) d_W_input_9 (by decide) rfl ?_
    refine ab_iload d_W_input_11 rfl ?_
    refine ab_if_eq (tgt := 19) d_W_input_13 (by decide) (fun q5 => by exact absurd q5 (by decide)) (fun q5 => ?_)
    refine ab_iload d_W_input_16 rfl ?_
    exact ab_iret d_W_input_18 rfl (Nat.le_refl _) (Nat.le_refl _) (by unfold sq_W_input_0; rw [if_pos t3]; exact ⟨rfl, (ab_fr_rf _ _)⟩)
  by_cases t6 : ¬ t ≤ 16
  · refine ab_topi (fun x7 ex7 => ?_)
    obtain rfl : x7 = (-2) := ex7.trans (by unfold sq_refusal_0; rw [if_neg t3, if_neg t6])
    clear ex7
    refine ab_istore (lv' := [some (.ref x), some (.int 0), some (.int t), some (.int v), some (.int (-2))]) d_W_input_9 (by decide) rfl ?_
    refine ab_iload d_W_input_11 rfl ?_
    refine ab_if_eq (tgt := 19) d_W_input_13 (by decide) (fun q8 => by exact absurd q8 (by decide)) (fun q8 => ?_)
    refine ab_iload d_W_input_16 rfl ?_
    exact ab_iret d_W_input_18 rfl (Nat.le_refl _) (Nat.le_refl _) (by unfold sq_W_input_0; rw [if_neg t3]; rw [if_pos t6]; exact ⟨rfl, (ab_fr_rf _ _)⟩)
  refine ab_topi (fun x9 ex9 => ?_)
  obtain rfl : x9 = 0 := ex9.trans (by unfold sq_refusal_0; rw [if_neg t3, if_pos (Decidable.not_not.mp t6)])
  clear ex9
  refine ab_istore (lv' := [some (.ref x), some (.int 0), some (.int t), some (.int v), some (.int 0)]) d_W_input_9 (by decide) rfl ?_
  refine ab_iload d_W_input_11 rfl ?_
  refine ab_if_eq (tgt := 19) d_W_input_13 (by decide) (fun q10 => ?_) (fun q10 => by exact absurd (by decide) q10)
  refine ab_aload_n d_W_input_19 rfl rfl rfl ?_
  refine ab_get (f := 2) d_W_input_20 gwo rfl (by decide) (k3 159 rfl rfl) rfl ?_
  refine ab_aload_n d_W_input_23 rfl rfl rfl ?_
  refine ab_get (f := 4) d_W_input_24 gwo rfl (by decide) (k3 161 rfl rfl) rfl ?_
  refine ab_iload_n d_W_input_27 rfl rfl ?_
  refine ab_iload_n d_W_input_28 rfl rfl ?_
  refine ab_iload_n d_W_input_29 rfl rfl ?_
  refine ab_callV_a (As := [.ref (x + 133), .int 0, .int t, .int v]) (rest := []) d_W_input_30 (r_accept gpo gp8 gp9 gno t3 (Decidable.not_not.mp t6)) (ab_mkC s_Play_accept (Nat.le_of_ble_eq_true rfl) (Nat.le_of_ble_eq_true rfl) (by decide) (by decide)) (k7 150 rfl rfl) i_Play_accept v_Play_accept gpo rfl rfl (Nat.le_of_ble_eq_true rfl) (fun h11 q12 => ?_)
  have f13 := q12
  have fr14 : ab_fr (in_lo x) h h11 := ab_fr_tr (ab_fr_rf _ _) f13
  clear f13
  exact ab_iret d_W_input_33 rfl (Nat.le_refl _) (Nat.le_refl _) (by unfold sq_W_input_0; rw [if_neg t3]; rw [if_neg t6]; exact ⟨rfl, fr14⟩)
def sq_W_input_1 (t : Int32) (v : Int32) : Int32 := if t ≤ 0 then ((-2)) else if ¬ t ≤ 16 then ((-2)) else ((-3))
set_option maxRecDepth 20000 in
set_option maxHeartbeats 2000000 in
theorem f_W_input_1 {h : List ab_E}    {x : Nat} {w t v : Int32}    (h0 : at_W0 h x w) : ab_M y_W_input { frames := 2, cells := 0, slots := 0, locals := 80 } [.ref x, .int 1, .int t, .int v] h (ab_A (some (.int (sq_W_input_1 t v))) (fun h1 => ab_fr (in_lo x) h h1)) := by
  obtain ⟨hW, hL, hRd, hB, ⟨hP, hN, hBe, hWs, hTk, hRw⟩, hSt, ⟨hG, hG1, hGc, hG2, hG3, hGe, hG4, hG5⟩, ⟨hH, hH1, hHc, hH2, hH3, hHe, hH4, hH5⟩⟩ := h0
  have hW0 := hW; have gwo := hW
  replace gwo : h[x]? = some (.inr (0, [.ref (x + 1), .ref (x + 8), .ref (x + 11), .ref (x + 131), .ref (x + 133), .ref (x + 325), .int 0, .int (s0_W w 7), .int 0])) := gwo
  have hP0 := hP; obtain ⟨gpo, gp4, gp8, gp9, gp10, gp11, gp12, gp13⟩ := hP
  replace gpo : h[x + 11]? = some (.inr (10, [.ref (x + 11 + 1), .int 0, .int 1, .int 0, .ref (x + 11 + 104), .int 0, .ref (x + 11 + 7), .ref (x + 11 + 105), .ref (x + 11 + 114), .ref (x + 11 + 115), .ref (x + 11 + 116), .ref (x + 11 + 117), .ref (x + 11 + 118), .ref (x + 11 + 119)])) := gpo
  replace gp4 : h[x + 11 + 104]? = some (.inl (.int, 256, .inl (fun _ => 0))) := gp4
  replace gp8 : h[x + 11 + 114]? = some (.inl (.boolean, 256, .inl (fun _ => 0))) := gp8
  replace gp9 : h[x + 11 + 115]? = some (.inl (.int, 256, .inl (fun _ => 0))) := gp9
  replace gp10 : h[x + 11 + 116]? = some (.inl (.int, 4, .inl (fun _ => 0))) := gp10
  replace gp11 : h[x + 11 + 117]? = some (.inl (.int, 16, .inl (fun _ => 0))) := gp11
  replace gp12 : h[x + 11 + 118]? = some (.inl (.int, 64, .inl (fun _ => 0))) := gp12
  replace gp13 : h[x + 11 + 119]? = some (.inl (.int, 4, .inl (fun _ => 0))) := gp13
  have hN0 := hN; obtain ⟨gno, gn7, gn8, gn11, gn12, gn14⟩ := hN
  replace gno : h[x + 11 + 1]? = some (.inr (7, [.int 0, .int 0, .int 0, .int 0, .int 0, .int 0, .int 0, .ref (x + 11 + 1 + 1), .ref (x + 11 + 1 + 2), .int 0, .int 0, .ref (x + 11 + 1 + 3), .ref (x + 11 + 1 + 4), .int 0, .ref (x + 11 + 1 + 5), .int 0])) := gno
  replace gn7 : h[x + 11 + 1 + 1]? = some (.inl (.int, 256, .inl (fun _ => 0))) := gn7
  replace gn8 : h[x + 11 + 1 + 2]? = some (.inl (.int, 256, .inl (a0_World 8))) := gn8
  replace gn11 : h[x + 11 + 1 + 3]? = some (.inl (.int, 12288, .inl (fun _ => 0))) := gn11
  replace gn12 : h[x + 11 + 1 + 4]? = some (.inl (.int, 1792, .inl (fun _ => 0))) := gn12
  replace gn14 : h[x + 11 + 1 + 5]? = some (.inl (.int, 32, .inl (fun _ => 0))) := gn14
  refine ab_of2 (lv := [some (.ref x), some (.int 1), some (.int t), some (.int v), none]) 1 rfl rfl (Nat.le_of_ble_eq_true rfl) ?_
  refine ab_aload_n d_W_input_0 rfl rfl rfl ?_
  refine ab_get (f := 2) d_W_input_1 gwo rfl (by decide) (k3 159 rfl rfl) rfl ?_
  refine ab_iload_n d_W_input_4 rfl rfl ?_
  refine ab_iload_n d_W_input_5 rfl rfl ?_
  refine ab_callV_a (As := [.int 1, .int t]) (rest := []) d_W_input_6 (r_refusal_1 gpo gp8 gno) (ab_mkC s_Play_refusal (Nat.le_of_ble_eq_true rfl) (Nat.le_of_ble_eq_true rfl) (by decide) (by decide)) (k7 146 rfl rfl) i_Play_refusal v_Play_refusal gpo rfl rfl (Nat.le_of_ble_eq_true rfl) (fun h2 q1 => ?_)
  subst q1
  by_cases t3 : t ≤ 0
  · refine ab_topi (fun x4 ex4 => ?_)
    obtain rfl : x4 = (-2) := ex4.trans (by unfold sq_refusal_1; rw [if_pos t3])
    clear ex4
    refine ab_istore (lv' := [some (.ref x), some (.int 1), some (.int t), some (.int v), some (.int (-2))]) d_W_input_9 (by decide) rfl ?_
    refine ab_iload d_W_input_11 rfl ?_
    refine ab_if_eq (tgt := 19) d_W_input_13 (by decide) (fun q5 => by exact absurd q5 (by decide)) (fun q5 => ?_)
    refine ab_iload d_W_input_16 rfl ?_
    exact ab_iret d_W_input_18 rfl (Nat.le_refl _) (Nat.le_refl _) (by unfold sq_W_input_1; rw [if_pos t3]; exact ⟨rfl, (ab_fr_rf _ _)⟩)
  by_cases t6 : ¬ t ≤ 16
  · refine ab_topi (fun x7 ex7 => ?_)
    obtain rfl : x7 = (-2) := ex7.trans (by unfold sq_refusal_1; rw [if_neg t3, if_neg t6])
    clear ex7
    refine ab_istore (lv' := [some (.ref x), some (.int 1), some (.int t), some (.int v), some (.int (-2))]) d_W_input_9 (by decide) rfl ?_
    refine ab_iload d_W_input_11 rfl ?_
    refine ab_if_eq (tgt := 19) d_W_input_13 (by decide) (fun q8 => by exact absurd q8 (by decide)) (fun q8 => ?_)
    refine ab_iload d_W_input_16 rfl ?_
    exact ab_iret d_W_input_18 rfl (Nat.le_refl _) (Nat.le_refl _) (by unfold sq_W_input_1; rw [if_neg t3]; rw [if_pos t6]; exact ⟨rfl, (ab_fr_rf _ _)⟩)
  refine ab_topi (fun x9 ex9 => ?_)
  obtain rfl : x9 = (-3) := ex9.trans (by unfold sq_refusal_1; rw [if_neg t3, if_pos (Decidable.not_not.mp t6)])
  clear ex9
  refine ab_istore (lv' := [some (.ref x), some (.int 1), some (.int t), some (.int v), some (.int (-3))]) d_W_input_9 (by decide) rfl ?_
  refine ab_iload d_W_input_11 rfl ?_
  refine ab_if_eq (tgt := 19) d_W_input_13 (by decide) (fun q10 => by exact absurd q10 (by decide)) (fun q10 => ?_)
  refine ab_iload d_W_input_16 rfl ?_
  exact ab_iret d_W_input_18 rfl (Nat.le_refl _) (Nat.le_refl _) (by unfold sq_W_input_1; rw [if_neg t3]; rw [if_neg t6]; exact ⟨rfl, (ab_fr_rf _ _)⟩)
def sq_W_input_2 (t : Int32) (v : Int32) : Int32 := if t ≤ 0 then ((-2)) else if ¬ t ≤ 16 then ((-2)) else ((-3))
set_option maxRecDepth 20000 in
set_option maxHeartbeats 2000000 in
theorem f_W_input_2 {h : List ab_E}    {x : Nat} {w t v : Int32}    (h0 : at_W0 h x w) : ab_M y_W_input { frames := 2, cells := 0, slots := 0, locals := 80 } [.ref x, .int 2, .int t, .int v] h (ab_A (some (.int (sq_W_input_2 t v))) (fun h1 => ab_fr (in_lo x) h h1)) := by
  obtain ⟨hW, hL, hRd, hB, ⟨hP, hN, hBe, hWs, hTk, hRw⟩, hSt, ⟨hG, hG1, hGc, hG2, hG3, hGe, hG4, hG5⟩, ⟨hH, hH1, hHc, hH2, hH3, hHe, hH4, hH5⟩⟩ := h0
  have hW0 := hW; have gwo := hW
  replace gwo : h[x]? = some (.inr (0, [.ref (x + 1), .ref (x + 8), .ref (x + 11), .ref (x + 131), .ref (x + 133), .ref (x + 325), .int 0, .int (s0_W w 7), .int 0])) := gwo
  have hP0 := hP; obtain ⟨gpo, gp4, gp8, gp9, gp10, gp11, gp12, gp13⟩ := hP
  replace gpo : h[x + 11]? = some (.inr (10, [.ref (x + 11 + 1), .int 0, .int 1, .int 0, .ref (x + 11 + 104), .int 0, .ref (x + 11 + 7), .ref (x + 11 + 105), .ref (x + 11 + 114), .ref (x + 11 + 115), .ref (x + 11 + 116), .ref (x + 11 + 117), .ref (x + 11 + 118), .ref (x + 11 + 119)])) := gpo
  replace gp4 : h[x + 11 + 104]? = some (.inl (.int, 256, .inl (fun _ => 0))) := gp4
  replace gp8 : h[x + 11 + 114]? = some (.inl (.boolean, 256, .inl (fun _ => 0))) := gp8
  replace gp9 : h[x + 11 + 115]? = some (.inl (.int, 256, .inl (fun _ => 0))) := gp9
  replace gp10 : h[x + 11 + 116]? = some (.inl (.int, 4, .inl (fun _ => 0))) := gp10
  replace gp11 : h[x + 11 + 117]? = some (.inl (.int, 16, .inl (fun _ => 0))) := gp11
  replace gp12 : h[x + 11 + 118]? = some (.inl (.int, 64, .inl (fun _ => 0))) := gp12
  replace gp13 : h[x + 11 + 119]? = some (.inl (.int, 4, .inl (fun _ => 0))) := gp13
  have hN0 := hN; obtain ⟨gno, gn7, gn8, gn11, gn12, gn14⟩ := hN
  replace gno : h[x + 11 + 1]? = some (.inr (7, [.int 0, .int 0, .int 0, .int 0, .int 0, .int 0, .int 0, .ref (x + 11 + 1 + 1), .ref (x + 11 + 1 + 2), .int 0, .int 0, .ref (x + 11 + 1 + 3), .ref (x + 11 + 1 + 4), .int 0, .ref (x + 11 + 1 + 5), .int 0])) := gno
  replace gn7 : h[x + 11 + 1 + 1]? = some (.inl (.int, 256, .inl (fun _ => 0))) := gn7
  replace gn8 : h[x + 11 + 1 + 2]? = some (.inl (.int, 256, .inl (a0_World 8))) := gn8
  replace gn11 : h[x + 11 + 1 + 3]? = some (.inl (.int, 12288, .inl (fun _ => 0))) := gn11
  replace gn12 : h[x + 11 + 1 + 4]? = some (.inl (.int, 1792, .inl (fun _ => 0))) := gn12
  replace gn14 : h[x + 11 + 1 + 5]? = some (.inl (.int, 32, .inl (fun _ => 0))) := gn14
  refine ab_of2 (lv := [some (.ref x), some (.int 2), some (.int t), some (.int v), none]) 1 rfl rfl (Nat.le_of_ble_eq_true rfl) ?_
  refine ab_aload_n d_W_input_0 rfl rfl rfl ?_
  refine ab_get (f := 2) d_W_input_1 gwo rfl (by decide) (k3 159 rfl rfl) rfl ?_
  refine ab_iload_n d_W_input_4 rfl rfl ?_
  refine ab_iload_n d_W_input_5 rfl rfl ?_
  refine ab_callV_a (As := [.int 2, .int t]) (rest := []) d_W_input_6 (r_refusal_2 gpo gp8 gno) (ab_mkC s_Play_refusal (Nat.le_of_ble_eq_true rfl) (Nat.le_of_ble_eq_true rfl) (by decide) (by decide)) (k7 146 rfl rfl) i_Play_refusal v_Play_refusal gpo rfl rfl (Nat.le_of_ble_eq_true rfl) (fun h2 q1 => ?_)
  subst q1
  by_cases t3 : t ≤ 0
  · refine ab_topi (fun x4 ex4 => ?_)
    obtain rfl : x4 = (-2) := ex4.trans (by unfold sq_refusal_2; rw [if_pos t3])
    clear ex4
    refine ab_istore (lv' := [some (.ref x), some (.int 2), some (.int t), some (.int v), some (.int (-2))]) d_W_input_9 (by decide) rfl ?_
    refine ab_iload d_W_input_11 rfl ?_
    refine ab_if_eq (tgt := 19) d_W_input_13 (by decide) (fun q5 => by exact absurd q5 (by decide)) (fun q5 => ?_)
    refine ab_iload d_W_input_16 rfl ?_
    exact ab_iret d_W_input_18 rfl (Nat.le_refl _) (Nat.le_refl _) (by unfold sq_W_input_2; rw [if_pos t3]; exact ⟨rfl, (ab_fr_rf _ _)⟩)
  by_cases t6 : ¬ t ≤ 16
  · refine ab_topi (fun x7 ex7 => ?_)
    obtain rfl : x7 = (-2) := ex7.trans (by unfold sq_refusal_2; rw [if_neg t3, if_neg t6])
    clear ex7
    refine ab_istore (lv' := [some (.ref x), some (.int 2), some (.int t), some (.int v), some (.int (-2))]) d_W_input_9 (by decide) rfl ?_
    refine ab_iload d_W_input_11 rfl ?_
    refine ab_if_eq (tgt := 19) d_W_input_13 (by decide) (fun q8 => by exact absurd q8 (by decide)) (fun q8 => ?_)
    refine ab_iload d_W_input_16 rfl ?_
    exact ab_iret d_W_input_18 rfl (Nat.le_refl _) (Nat.le_refl _) (by unfold sq_W_input_2; rw [if_neg t3]; rw [if_pos t6]; exact ⟨rfl, (ab_fr_rf _ _)⟩)
  refine ab_topi (fun x9 ex9 => ?_)
  obtain rfl : x9 = (-3) := ex9.trans (by unfold sq_refusal_2; rw [if_neg t3, if_pos (Decidable.not_not.mp t6)])
  clear ex9
  refine ab_istore (lv' := [some (.ref x), some (.int 2), some (.int t), some (.int v), some (.int (-3))]) d_W_input_9 (by decide) rfl ?_
  refine ab_iload d_W_input_11 rfl ?_
  refine ab_if_eq (tgt := 19) d_W_input_13 (by decide) (fun q10 => by exact absurd q10 (by decide)) (fun q10 => ?_)
  refine ab_iload d_W_input_16 rfl ?_
  exact ab_iret d_W_input_18 rfl (Nat.le_refl _) (Nat.le_refl _) (by unfold sq_W_input_2; rw [if_neg t3]; rw [if_neg t6]; exact ⟨rfl, (ab_fr_rf _ _)⟩)
def sq_W_input_3 (t : Int32) (v : Int32) : Int32 := if t ≤ 0 then ((-2)) else if ¬ t ≤ 16 then ((-2)) else ((-3))
set_option maxRecDepth 20000 in
set_option maxHeartbeats 2000000 in
theorem f_W_input_3 {h : List ab_E}    {x : Nat} {w t v : Int32}    (h0 : at_W0 h x w) : ab_M y_W_input { frames := 2, cells := 0, slots := 0, locals := 80 } [.ref x, .int 3, .int t, .int v] h (ab_A (some (.int (sq_W_input_3 t v))) (fun h1 => ab_fr (in_lo x) h h1)) := by
  obtain ⟨hW, hL, hRd, hB, ⟨hP, hN, hBe, hWs, hTk, hRw⟩, hSt, ⟨hG, hG1, hGc, hG2, hG3, hGe, hG4, hG5⟩, ⟨hH, hH1, hHc, hH2, hH3, hHe, hH4, hH5⟩⟩ := h0
  have hW0 := hW; have gwo := hW
  replace gwo : h[x]? = some (.inr (0, [.ref (x + 1), .ref (x + 8), .ref (x + 11), .ref (x + 131), .ref (x + 133), .ref (x + 325), .int 0, .int (s0_W w 7), .int 0])) := gwo
  have hP0 := hP; obtain ⟨gpo, gp4, gp8, gp9, gp10, gp11, gp12, gp13⟩ := hP
  replace gpo : h[x + 11]? = some (.inr (10, [.ref (x + 11 + 1), .int 0, .int 1, .int 0, .ref (x + 11 + 104), .int 0, .ref (x + 11 + 7), .ref (x + 11 + 105), .ref (x + 11 + 114), .ref (x + 11 + 115), .ref (x + 11 + 116), .ref (x + 11 + 117), .ref (x + 11 + 118), .ref (x + 11 + 119)])) := gpo
  replace gp4 : h[x + 11 + 104]? = some (.inl (.int, 256, .inl (fun _ => 0))) := gp4
  replace gp8 : h[x + 11 + 114]? = some (.inl (.boolean, 256, .inl (fun _ => 0))) := gp8
  replace gp9 : h[x + 11 + 115]? = some (.inl (.int, 256, .inl (fun _ => 0))) := gp9
  replace gp10 : h[x + 11 + 116]? = some (.inl (.int, 4, .inl (fun _ => 0))) := gp10
  replace gp11 : h[x + 11 + 117]? = some (.inl (.int, 16, .inl (fun _ => 0))) := gp11
  replace gp12 : h[x + 11 + 118]? = some (.inl (.int, 64, .inl (fun _ => 0))) := gp12
  replace gp13 : h[x + 11 + 119]? = some (.inl (.int, 4, .inl (fun _ => 0))) := gp13
  have hN0 := hN; obtain ⟨gno, gn7, gn8, gn11, gn12, gn14⟩ := hN
  replace gno : h[x + 11 + 1]? = some (.inr (7, [.int 0, .int 0, .int 0, .int 0, .int 0, .int 0, .int 0, .ref (x + 11 + 1 + 1), .ref (x + 11 + 1 + 2), .int 0, .int 0, .ref (x + 11 + 1 + 3), .ref (x + 11 + 1 + 4), .int 0, .ref (x + 11 + 1 + 5), .int 0])) := gno
  replace gn7 : h[x + 11 + 1 + 1]? = some (.inl (.int, 256, .inl (fun _ => 0))) := gn7
  replace gn8 : h[x + 11 + 1 + 2]? = some (.inl (.int, 256, .inl (a0_World 8))) := gn8
  replace gn11 : h[x + 11 + 1 + 3]? = some (.inl (.int, 12288, .inl (fun _ => 0))) := gn11
  replace gn12 : h[x + 11 + 1 + 4]? = some (.inl (.int, 1792, .inl (fun _ => 0))) := gn12
  replace gn14 : h[x + 11 + 1 + 5]? = some (.inl (.int, 32, .inl (fun _ => 0))) := gn14
  refine ab_of2 (lv := [some (.ref x), some (.int 3), some (.int t), some (.int v), none]) 1 rfl rfl (Nat.le_of_ble_eq_true rfl) ?_
  refine ab_aload_n d_W_input_0 rfl rfl rfl ?_
  refine ab_get (f := 2) d_W_input_1 gwo rfl (by decide) (k3 159 rfl rfl) rfl ?_
  refine ab_iload_n d_W_input_4 rfl rfl ?_
  refine ab_iload_n d_W_input_5 rfl rfl ?_
  refine ab_callV_a (As := [.int 3, .int t]) (rest := []) d_W_input_6 (r_refusal_3 gpo gp8 gno) (ab_mkC s_Play_refusal (Nat.le_of_ble_eq_true rfl) (Nat.le_of_ble_eq_true rfl) (by decide) (by decide)) (k7 146 rfl rfl) i_Play_refusal v_Play_refusal gpo rfl rfl (Nat.le_of_ble_eq_true rfl) (fun h2 q1 => ?_)
  subst q1
  by_cases t3 : t ≤ 0
  · refine ab_topi (fun x4 ex4 => ?_)
    obtain rfl : x4 = (-2) := ex4.trans (by unfold sq_refusal_3; rw [if_pos t3])
    clear ex4
    refine ab_istore (lv' := [some (.ref x), some (.int 3), some (.int t), some (.int v), some (.int (-2))]) d_W_input_9 (by decide) rfl ?_
    refine ab_iload d_W_input_11 rfl ?_
    refine ab_if_eq (tgt := 19) d_W_input_13 (by decide) (fun q5 => by exact absurd q5 (by decide)) (fun q5 => ?_)
    refine ab_iload d_W_input_16 rfl ?_
    exact ab_iret d_W_input_18 rfl (Nat.le_refl _) (Nat.le_refl _) (by unfold sq_W_input_3; rw [if_pos t3]; exact ⟨rfl, (ab_fr_rf _ _)⟩)
  by_cases t6 : ¬ t ≤ 16
  · refine ab_topi (fun x7 ex7 => ?_)
    obtain rfl : x7 = (-2) := ex7.trans (by unfold sq_refusal_3; rw [if_neg t3, if_neg t6])
    clear ex7
    refine ab_istore (lv' := [some (.ref x), some (.int 3), some (.int t), some (.int v), some (.int (-2))]) d_W_input_9 (by decide) rfl ?_
    refine ab_iload d_W_input_11 rfl ?_
    refine ab_if_eq (tgt := 19) d_W_input_13 (by decide) (fun q8 => by exact absurd q8 (by decide)) (fun q8 => ?_)
    refine ab_iload d_W_input_16 rfl ?_
    exact ab_iret d_W_input_18 rfl (Nat.le_refl _) (Nat.le_refl _) (by unfold sq_W_input_3; rw [if_neg t3]; rw [if_pos t6]; exact ⟨rfl, (ab_fr_rf _ _)⟩)
  refine ab_topi (fun x9 ex9 => ?_)
  obtain rfl : x9 = (-3) := ex9.trans (by unfold sq_refusal_3; rw [if_neg t3, if_pos (Decidable.not_not.mp t6)])
  clear ex9
  refine ab_istore (lv' := [some (.ref x), some (.int 3), some (.int t), some (.int v), some (.int (-3))]) d_W_input_9 (by decide) rfl ?_
  refine ab_iload d_W_input_11 rfl ?_
  refine ab_if_eq (tgt := 19) d_W_input_13 (by decide) (fun q10 => by exact absurd q10 (by decide)) (fun q10 => ?_)
  refine ab_iload d_W_input_16 rfl ?_
  exact ab_iret d_W_input_18 rfl (Nat.le_refl _) (Nat.le_refl _) (by unfold sq_W_input_3; rw [if_neg t3]; rw [if_neg t6]; exact ⟨rfl, (ab_fr_rf _ _)⟩)
theorem out4 {p : Int32} (hp : p < 0 ∨ 3 < p) (h0 : ¬ p < 0) : ¬ p < 4 := fun z => by
  rcases hp with q | q
  · exact h0 q
  · rw [Int32.lt_iff_toInt_lt] at q z
    have e3 : (3 : Int32).toInt = 3 := by decide
    have e4 : (4 : Int32).toInt = 4 := by decide
    omega
set_option maxRecDepth 20000 in
set_option maxHeartbeats 2000000 in
theorem r_refusal_x {h : List ab_E}  {q0 q1 q2 q3 q4 q5 q6 q7 q8 q9 q10 q11 q12 q13 : Value} {x : Nat} {p t : Int32}  (qo : h[x + 11]? = some (.inr (10, [q0, q1, q2, q3, q4, q5, q6, q7, q8, q9, q10, q11, q12, q13])))  (hp : p < 0 ∨ 3 < p) : ab_M y_Play_refusal { frames := 0, cells := 0, slots := 0, locals := 0 } [.ref (x + 11), .int p, .int t] h (ab_A (some (.int ((-1)))) (fun h1 => h = h1)) := by
  refine ab_of2 (lv := [some (.ref (x + 11)), some (.int p), some (.int t), none]) 1 rfl rfl (Nat.le_of_ble_eq_true rfl) ?_
  refine ab_iload_n d_Play_refusal_0 rfl rfl ?_
  refine ab_if_lt (tgt := 9) d_Play_refusal_1 (by decide) (fun q1 => ?_) (fun q1 => ?_)
  · refine ab_iconst (v := (-1)) d_Play_refusal_9 (by decide) ?_
    exact ab_iret d_Play_refusal_10 rfl (Nat.le_refl _) (Nat.le_refl _) (by exact ⟨rfl, rfl⟩)
  · refine ab_iload_n d_Play_refusal_4 rfl rfl ?_
    refine ab_iconst (v := 4) d_Play_refusal_5 (by decide) ?_
    refine ab_icmp_lt (tgt := 11) d_Play_refusal_6 (by decide) (fun q2 => ?_) (fun q2 => ?_)
    · exact absurd q2 (out4 hp q1)
    · refine ab_iconst (v := (-1)) d_Play_refusal_9 (by decide) ?_
      exact ab_iret d_Play_refusal_10 rfl (Nat.le_refl _) (Nat.le_refl _) (by exact ⟨rfl, rfl⟩)
def sq_W_input_x (p : Int32) (t : Int32) (v : Int32) : Int32 := ((-1))
set_option maxRecDepth 20000 in
set_option maxHeartbeats 2000000 in
theorem f_W_input_x {h : List ab_E}   {x : Nat} {w p t v : Int32}   (h0 : at_W0 h x w) (hp : p < 0 ∨ 3 < p) : ab_M y_W_input { frames := 2, cells := 0, slots := 0, locals := 80 } [.ref x, .int p, .int t, .int v] h (ab_A (some (.int (sq_W_input_x p t v))) (fun h1 => ab_fr (in_lo x) h h1)) := by
  obtain ⟨hW, hL, hRd, hB, ⟨hP, hN, hBe, hWs, hTk, hRw⟩, hSt, ⟨hG, hG1, hGc, hG2, hG3, hGe, hG4, hG5⟩, ⟨hH, hH1, hHc, hH2, hH3, hHe, hH4, hH5⟩⟩ := h0
  have hW0 := hW; have gwo := hW
  replace gwo : h[x]? = some (.inr (0, [.ref (x + 1), .ref (x + 8), .ref (x + 11), .ref (x + 131), .ref (x + 133), .ref (x + 325), .int 0, .int (s0_W w 7), .int 0])) := gwo
  have hP0 := hP; obtain ⟨gpo, gp4, gp8, gp9, gp10, gp11, gp12, gp13⟩ := hP
  replace gpo : h[x + 11]? = some (.inr (10, [.ref (x + 11 + 1), .int 0, .int 1, .int 0, .ref (x + 11 + 104), .int 0, .ref (x + 11 + 7), .ref (x + 11 + 105), .ref (x + 11 + 114), .ref (x + 11 + 115), .ref (x + 11 + 116), .ref (x + 11 + 117), .ref (x + 11 + 118), .ref (x + 11 + 119)])) := gpo
  replace gp4 : h[x + 11 + 104]? = some (.inl (.int, 256, .inl (fun _ => 0))) := gp4
  replace gp8 : h[x + 11 + 114]? = some (.inl (.boolean, 256, .inl (fun _ => 0))) := gp8
  replace gp9 : h[x + 11 + 115]? = some (.inl (.int, 256, .inl (fun _ => 0))) := gp9
  replace gp10 : h[x + 11 + 116]? = some (.inl (.int, 4, .inl (fun _ => 0))) := gp10
  replace gp11 : h[x + 11 + 117]? = some (.inl (.int, 16, .inl (fun _ => 0))) := gp11
  replace gp12 : h[x + 11 + 118]? = some (.inl (.int, 64, .inl (fun _ => 0))) := gp12
  replace gp13 : h[x + 11 + 119]? = some (.inl (.int, 4, .inl (fun _ => 0))) := gp13
  refine ab_of2 (lv := [some (.ref x), some (.int p), some (.int t), some (.int v), none]) 1 rfl rfl (Nat.le_of_ble_eq_true rfl) ?_
  refine ab_aload_n d_W_input_0 rfl rfl rfl ?_
  refine ab_get (f := 2) d_W_input_1 gwo rfl (by decide) (k3 159 rfl rfl) rfl ?_
  refine ab_iload_n d_W_input_4 rfl rfl ?_
  refine ab_iload_n d_W_input_5 rfl rfl ?_
  refine ab_callV_a (As := [.int p, .int t]) (rest := []) d_W_input_6 (r_refusal_x gpo hp) (ab_mkC s_Play_refusal (Nat.le_of_ble_eq_true rfl) (Nat.le_of_ble_eq_true rfl) (by decide) (by decide)) (k7 146 rfl rfl) i_Play_refusal v_Play_refusal gpo rfl rfl (Nat.le_of_ble_eq_true rfl) (fun h2 q1 => ?_)
  subst q1
  refine ab_istore (lv' := [some (.ref x), some (.int p), some (.int t), some (.int v), some (.int (-1))]) d_W_input_9 (by decide) rfl ?_
  refine ab_iload d_W_input_11 rfl ?_
  refine ab_if_eq (tgt := 19) d_W_input_13 (by decide) (fun q3 => by exact absurd q3 (by decide)) (fun q3 => ?_)
  refine ab_iload d_W_input_16 rfl ?_
  exact ab_iret d_W_input_18 rfl (Nat.le_refl _) (Nat.le_refl _) (by unfold sq_W_input_x; exact ⟨rfl, (ab_fr_rf _ _)⟩)
set_option maxRecDepth 20000 in
set_option maxHeartbeats 2000000 in
theorem r_place_x {h : List ab_E}  {q0 q1 q2 q3 q4 q5 q6 q7 q8 q9 q10 q11 q12 q13 : Value} {x : Nat} {p u : Int32}  (qo : h[x + 11]? = some (.inr (10, [q0, q1, q2, q3, q4, q5, q6, q7, q8, q9, q10, q11, q12, q13])))  (hp : p < 0 ∨ 3 < p) : ab_M y_Play_place { frames := 0, cells := 0, slots := 0, locals := 0 } [.ref (x + 11), .int p, .int u] h (ab_A (some (.int (0))) (fun h1 => h = h1)) := by
  refine ab_of2 (lv := [some (.ref (x + 11)), some (.int p), some (.int u), none]) 1 rfl rfl (Nat.le_of_ble_eq_true rfl) ?_
  refine ab_iload_n d_Play_place_0 rfl rfl ?_
  refine ab_if_lt (tgt := 29) d_Play_place_1 (by decide) (fun q1 => ?_) (fun q1 => ?_)
  · refine ab_iconst (v := 0) d_Play_place_29 (by decide) ?_
    exact ab_zret d_Play_place_30 rfl rfl (Nat.le_refl _) (Nat.le_refl _) (by exact ⟨rfl, rfl⟩)
  · refine ab_iload_n d_Play_place_4 rfl rfl ?_
    refine ab_iconst (v := 4) d_Play_place_5 (by decide) ?_
    refine ab_icmp_ge (tgt := 29) d_Play_place_6 (by decide) (fun q2 => ?_) (fun q2 => ?_)
    · refine ab_iconst (v := 0) d_Play_place_29 (by decide) ?_
      exact ab_zret d_Play_place_30 rfl rfl (Nat.le_refl _) (Nat.le_refl _) (by exact ⟨rfl, rfl⟩)
    · exact absurd (Int32.not_lt.mp (out4 hp q1)) q2
def sq_W_seat_x (p : Int32) (u : Int32) : Int32 := (0)
set_option maxRecDepth 20000 in
set_option maxHeartbeats 2000000 in
theorem f_W_seat_x {h : List ab_E}   {x : Nat} {w p u : Int32}   (h0 : at_W0 h x w) (hp : p < 0 ∨ 3 < p) : ab_M y_W_seat { frames := 2, cells := 0, slots := 0, locals := 80 } [.ref x, .int p, .int u] h (ab_A (some (.int (sq_W_seat_x p u))) (fun h1 => ab_fr (in_lo x) h h1)) := by
  obtain ⟨hW, hL, hRd, hB, ⟨hP, hN, hBe, hWs, hTk, hRw⟩, hSt, ⟨hG, hG1, hGc, hG2, hG3, hGe, hG4, hG5⟩, ⟨hH, hH1, hHc, hH2, hH3, hHe, hH4, hH5⟩⟩ := h0
  have hW0 := hW; have gwo := hW
  replace gwo : h[x]? = some (.inr (0, [.ref (x + 1), .ref (x + 8), .ref (x + 11), .ref (x + 131), .ref (x + 133), .ref (x + 325), .int 0, .int (s0_W w 7), .int 0])) := gwo
  have hP0 := hP; obtain ⟨gpo, gp4, gp8, gp9, gp10, gp11, gp12, gp13⟩ := hP
  replace gpo : h[x + 11]? = some (.inr (10, [.ref (x + 11 + 1), .int 0, .int 1, .int 0, .ref (x + 11 + 104), .int 0, .ref (x + 11 + 7), .ref (x + 11 + 105), .ref (x + 11 + 114), .ref (x + 11 + 115), .ref (x + 11 + 116), .ref (x + 11 + 117), .ref (x + 11 + 118), .ref (x + 11 + 119)])) := gpo
  replace gp4 : h[x + 11 + 104]? = some (.inl (.int, 256, .inl (fun _ => 0))) := gp4
  replace gp8 : h[x + 11 + 114]? = some (.inl (.boolean, 256, .inl (fun _ => 0))) := gp8
  replace gp9 : h[x + 11 + 115]? = some (.inl (.int, 256, .inl (fun _ => 0))) := gp9
  replace gp10 : h[x + 11 + 116]? = some (.inl (.int, 4, .inl (fun _ => 0))) := gp10
  replace gp11 : h[x + 11 + 117]? = some (.inl (.int, 16, .inl (fun _ => 0))) := gp11
  replace gp12 : h[x + 11 + 118]? = some (.inl (.int, 64, .inl (fun _ => 0))) := gp12
  replace gp13 : h[x + 11 + 119]? = some (.inl (.int, 4, .inl (fun _ => 0))) := gp13
  refine ab_of2 (lv := [some (.ref x), some (.int p), some (.int u)]) 0 rfl rfl (Nat.le_of_ble_eq_true rfl) ?_
  refine ab_aload_n d_W_seat_0 rfl rfl rfl ?_
  refine ab_get (f := 2) d_W_seat_1 gwo rfl (by decide) (k3 159 rfl rfl) rfl ?_
  refine ab_iload_n d_W_seat_4 rfl rfl ?_
  refine ab_iload_n d_W_seat_5 rfl rfl ?_
  refine ab_callV_a (As := [.int p, .int u]) (rest := []) d_W_seat_6 (r_place_x gpo hp) (ab_mkC s_Play_place (Nat.le_of_ble_eq_true rfl) (Nat.le_of_ble_eq_true rfl) (by decide) (by decide)) (k7 163 rfl rfl) i_Play_place v_Play_place gpo rfl rfl (Nat.le_of_ble_eq_true rfl) (fun h2 q1 => ?_)
  subst q1
  exact ab_zret d_W_seat_9 rfl rfl (Nat.le_refl _) (Nat.le_refl _) (by unfold sq_W_seat_x; exact ⟨rfl, (ab_fr_rf _ _)⟩)
