def in_lo (x : Nat) : Nat → Prop := fun i => i < x + 517
theorem a0W8 {i : Int32} (h : vp_in i 256) : a0_World 8 i.toNatClampNeg = -1 := by
  obtain ⟨j, hj, rfl⟩ := vp_in_of h (by decide)
  rw [nI_clamp (by omega)]
  show sp_fill 0 256 (-1) (fun _ => 0) j = -1
  unfold sp_fill
  rw [if_pos ⟨Nat.zero_le _, hj⟩]
set_option maxRecDepth 20000 in
set_option maxHeartbeats 2000000 in
theorem r_Play_isQuiet {h : List ab_E}  {q2 q3 q4 q5 q6 q7 q8 q9 q10 q11 q12 q13 : Value} {n1 n2 n3 n4 n5 n6 n7 n8 n9 n10 n11 n12 n13 n14 n15 : Value} {x : Nat}  (qo : h[x + 11]? = some (.inr (10, [.ref (x + 11 + 1), .int 0, q2, q3, q4, q5, q6, q7, q8, q9, q10, q11, q12, q13]))) (no : h[x + 11 + 1]? = some (.inr (7, [.int 0, n1, n2, n3, n4, n5, n6, n7, n8, n9, n10, n11, n12, n13, n14, n15])))  : ab_M y_Play_isQuiet { frames := 0, cells := 0, slots := 0, locals := 0 } [.ref (x + 11)] h (ab_A (some (.int (1))) (fun h1 => h = h1)) := by
  refine ab_of2 (lv := [some (.ref (x + 11))]) 0 rfl rfl (Nat.le_of_ble_eq_true rfl) ?_
  refine ab_aload_n d_Play_isQuiet_0 rfl rfl rfl ?_
  refine ab_get (f := 0) d_Play_isQuiet_1 qo rfl (by decide) (k2 130 rfl rfl) rfl ?_
  refine ab_get (f := 0) d_Play_isQuiet_4 no rfl (by decide) (k1 205 rfl rfl) rfl ?_
  refine ab_aload_n d_Play_isQuiet_7 rfl rfl rfl ?_
  refine ab_get (f := 1) d_Play_isQuiet_8 qo rfl (by decide) (k2 132 rfl rfl) rfl ?_
  refine ab_icmp_ne (tgt := 18) d_Play_isQuiet_11 (by decide) (fun q1 => by exact absurd q1 (by decide)) (fun q1 => ?_)
  refine ab_iconst (v := 1) d_Play_isQuiet_14 (by decide) ?_
  refine ab_goto (tgt := 19) d_Play_isQuiet_15 (by decide) ?_
  exact ab_zret d_Play_isQuiet_19 rfl rfl (Nat.le_refl _) (Nat.le_refl _) (by exact ⟨rfl, rfl⟩)
set_option maxRecDepth 20000 in
set_option maxHeartbeats 2000000 in
theorem r_Play_isFullyAhead {h : List ab_E}  {q2 q3 q4 q5 q6 q7 q8 q9 q10 q11 q12 q13 : Value} {n1 n2 n3 n4 n5 n6 n7 n8 n9 n10 n11 n12 n13 n14 n15 : Value} {x : Nat}  (qo : h[x + 11]? = some (.inr (10, [.ref (x + 11 + 1), .int 0, q2, q3, q4, q5, q6, q7, q8, q9, q10, q11, q12, q13]))) (no : h[x + 11 + 1]? = some (.inr (7, [.int 0, n1, n2, n3, n4, n5, n6, n7, n8, n9, n10, n11, n12, n13, n14, n15])))  : ab_M y_Play_isFullyAhead { frames := 0, cells := 0, slots := 0, locals := 0 } [.ref (x + 11)] h (ab_A (some (.int (0))) (fun h1 => h = h1)) := by
  refine ab_of2 (lv := [some (.ref (x + 11))]) 0 rfl rfl (Nat.le_of_ble_eq_true rfl) ?_
  refine ab_aload_n d_Play_isFullyAhead_0 rfl rfl rfl ?_
  refine ab_get (f := 0) d_Play_isFullyAhead_1 qo rfl (by decide) (k2 130 rfl rfl) rfl ?_
  refine ab_get (f := 0) d_Play_isFullyAhead_4 no rfl (by decide) (k1 205 rfl rfl) rfl ?_
  refine ab_aload_n d_Play_isFullyAhead_7 rfl rfl rfl ?_
  refine ab_get (f := 1) d_Play_isFullyAhead_8 qo rfl (by decide) (k2 132 rfl rfl) rfl ?_
  refine ab_bipush (v := 16) d_Play_isFullyAhead_11 (by decide) ?_
  refine ab_iadd d_Play_isFullyAhead_13 ?_
  refine ab_topi (fun x1 ex1 => ?_)
  obtain rfl : x1 = 16 := ex1.trans (by decide)
  clear ex1
  refine ab_icmp_lt (tgt := 21) d_Play_isFullyAhead_14 (by decide) (fun q2 => ?_) (fun q2 => by exact absurd (by decide) q2)
  refine ab_iconst (v := 0) d_Play_isFullyAhead_21 (by decide) ?_
  exact ab_zret d_Play_isFullyAhead_22 rfl rfl (Nat.le_refl _) (Nat.le_refl _) (by exact ⟨rfl, rfl⟩)
set_option maxRecDepth 20000 in
set_option maxHeartbeats 2000000 in
theorem r_World_placeOf {h : List ab_E}  {n0 n1 n2 n3 n4 n5 n6 n9 n10 n11 n12 n13 n14 n15 : Value} {x : Nat} {e : Int32}  (no : h[x + 11 + 1]? = some (.inr (7, [n0, n1, n2, n3, n4, n5, n6, .ref (x + 11 + 1 + 1), .ref (x + 11 + 1 + 2), n9, n10, n11, n12, n13, n14, n15]))) (ra : h[x + 11 + 1 + 2]? = some (.inl (.int, 256, .inl (a0_World 8))))  : ab_M y_World_placeOf { frames := 0, cells := 0, slots := 0, locals := 0 } [.ref (x + 11 + 1), .int e] h (ab_A (some (.int ((-1)))) (fun h1 => h = h1)) := by
  refine ab_of2 (lv := [some (.ref (x + 11 + 1)), some (.int e), none]) 1 rfl rfl (Nat.le_of_ble_eq_true rfl) ?_
  refine ab_iload_n d_World_placeOf_0 rfl rfl ?_
  refine ab_sipush (v := 255) d_World_placeOf_1 (by decide) ?_
  refine ab_iand d_World_placeOf_4 ?_
  refine ab_istore_n (lv' := [some (.ref (x + 11 + 1)), some (.int e), some (.int (e &&& 255))]) d_World_placeOf_5 rfl (by decide) rfl ?_
  refine ab_aload_n d_World_placeOf_6 rfl rfl rfl ?_
  refine ab_get (f := 8) d_World_placeOf_7 no rfl (by decide) (k1 229 rfl rfl) rfl ?_
  refine ab_iload_n d_World_placeOf_10 rfl rfl ?_
  refine ab_iald d_World_placeOf_11 tI ra (in255 e) ?_
  refine ab_topi (fun x1 ex1 => ?_)
  obtain rfl : x1 = (-1) := ex1.trans (a0W8 (in255 e))
  clear ex1
  refine ab_if_lt (tgt := 36) d_World_placeOf_12 (by decide) (fun q2 => ?_) (fun q2 => by exact absurd (by decide) q2)
  refine ab_iconst (v := (-1)) d_World_placeOf_36 (by decide) ?_
  exact ab_iret d_World_placeOf_37 rfl (Nat.le_refl _) (Nat.le_refl _) (by exact ⟨rfl, rfl⟩)
set_option maxRecDepth 20000 in
set_option maxHeartbeats 2000000 in
theorem r_W_has {h : List ab_E}  {p6 p7 p8 : Value} {q1 q2 q3 q4 q5 q6 q7 q8 q9 q10 q11 q12 q13 : Value} {n0 n1 n2 n3 n4 n5 n6 n9 n10 n11 n12 n13 n14 n15 : Value} {x : Nat} {e c : Int32}  (po : h[x]? = some (.inr (0, [.ref (x + 1), .ref (x + 8), .ref (x + 11), .ref (x + 131), .ref (x + 133), .ref (x + 325), p6, p7, p8]))) (qo : h[x + 11]? = some (.inr (10, [.ref (x + 11 + 1), q1, q2, q3, q4, q5, q6, q7, q8, q9, q10, q11, q12, q13]))) (no : h[x + 11 + 1]? = some (.inr (7, [n0, n1, n2, n3, n4, n5, n6, .ref (x + 11 + 1 + 1), .ref (x + 11 + 1 + 2), n9, n10, n11, n12, n13, n14, n15]))) (ra : h[x + 11 + 1 + 2]? = some (.inl (.int, 256, .inl (a0_World 8))))  : ab_M y_W_has { frames := 1, cells := 0, slots := 0, locals := 40 } [.ref x, .int e, .int c] h (ab_A (some (.int (0))) (fun h1 => h = h1)) := by
  refine ab_of2 (lv := [some (.ref x), some (.int e), some (.int c), none]) 1 rfl rfl (Nat.le_of_ble_eq_true rfl) ?_
  refine ab_aload_n d_W_has_0 rfl rfl rfl ?_
  refine ab_get (f := 2) d_W_has_1 po rfl (by decide) (k3 159 rfl rfl) rfl ?_
  refine ab_get (f := 0) d_W_has_4 qo rfl (by decide) (k2 131 rfl rfl) rfl ?_
  refine ab_iload_n d_W_has_7 rfl rfl ?_
  refine ab_callV_a (As := [.int e]) (rest := []) d_W_has_8 (r_World_placeOf no ra) (ab_mkC s_World_placeOf (Nat.le_of_ble_eq_true rfl) (Nat.le_of_ble_eq_true rfl) (by decide) (by decide)) (k7 177 rfl rfl) i_World_placeOf v_World_placeOf no rfl rfl (Nat.le_of_ble_eq_true rfl) (fun h2 q1 => ?_)
  subst q1
  refine ab_istore_n (lv' := [some (.ref x), some (.int e), some (.int c), some (.int (-1))]) d_W_has_11 rfl (by decide) rfl ?_
  refine ab_iload_n d_W_has_12 rfl rfl ?_
  refine ab_if_lt (tgt := 34) d_W_has_13 (by decide) (fun q3 => ?_) (fun q3 => by exact absurd (by decide) q3)
  refine ab_iconst (v := 0) d_W_has_34 (by decide) ?_
  exact ab_zret d_W_has_35 rfl rfl (Nat.le_refl _) (Nat.le_refl _) (by exact ⟨rfl, rfl⟩)
set_option maxRecDepth 20000 in
set_option maxHeartbeats 2000000 in
theorem r_W_offsetOf {h : List ab_E}  {p6 p7 p8 : Value} {q1 q2 q3 q4 q5 q6 q7 q8 q9 q10 q11 q12 q13 : Value} {n0 n1 n2 n3 n4 n5 n6 n9 n10 n11 n12 n13 n14 n15 : Value} {x : Nat} {e c k : Int32}  (po : h[x]? = some (.inr (0, [.ref (x + 1), .ref (x + 8), .ref (x + 11), .ref (x + 131), .ref (x + 133), .ref (x + 325), p6, p7, p8]))) (qo : h[x + 11]? = some (.inr (10, [.ref (x + 11 + 1), q1, q2, q3, q4, q5, q6, q7, q8, q9, q10, q11, q12, q13]))) (no : h[x + 11 + 1]? = some (.inr (7, [n0, n1, n2, n3, n4, n5, n6, .ref (x + 11 + 1 + 1), .ref (x + 11 + 1 + 2), n9, n10, n11, n12, n13, n14, n15]))) (ra : h[x + 11 + 1 + 2]? = some (.inl (.int, 256, .inl (a0_World 8))))  : ab_M y_W_offsetOf { frames := 2, cells := 0, slots := 0, locals := 80 } [.ref x, .int e, .int c, .int k] h (ab_A (some (.int ((-1)))) (fun h1 => h = h1)) := by
  refine ab_of2 (lv := [some (.ref x), some (.int e), some (.int c), some (.int k), none]) 1 rfl rfl (Nat.le_of_ble_eq_true rfl) ?_
  refine ab_aload_n d_W_offsetOf_0 rfl rfl rfl ?_
  refine ab_iload_n d_W_offsetOf_1 rfl rfl ?_
  refine ab_iload_n d_W_offsetOf_2 rfl rfl ?_
  refine ab_callV_a (As := [.int e, .int c]) (rest := []) d_W_offsetOf_3 (r_W_has po qo no ra) (ab_mkC s_W_has (Nat.le_of_ble_eq_true rfl) (Nat.le_of_ble_eq_true rfl) (by decide) (by decide)) (k7 190 rfl rfl) i_W_has v_W_has po rfl rfl (Nat.le_of_ble_eq_true rfl) (fun h2 q1 => ?_)
  subst q1
  refine ab_if_ne (tgt := 11) d_W_offsetOf_6 (by decide) (fun q3 => by exact absurd q3 (by decide)) (fun q3 => ?_)
  refine ab_iconst (v := (-1)) d_W_offsetOf_9 (by decide) ?_
  exact ab_iret d_W_offsetOf_10 rfl (Nat.le_refl _) (Nat.le_refl _) (by exact ⟨rfl, rfl⟩)
set_option maxRecDepth 20000 in
set_option maxHeartbeats 2000000 in
theorem r_World_matchAt {h : List ab_E}  {n0 n1 n2 n3 n4 n5 n6 n7 n8 n10 n11 n12 n13 n14 n15 : Value} {x : Nat} {u v k : Int32}  (no : h[x + 11 + 1]? = some (.inr (7, [n0, n1, n2, n3, n4, n5, n6, n7, n8, .int 0, n10, n11, n12, n13, n14, n15])))  : ab_M y_World_matchAt { frames := 0, cells := 0, slots := 0, locals := 0 } [.ref (x + 11 + 1), .int u, .int v, .int k] h (ab_A (some (.int ((-1)))) (fun h1 => h = h1)) := by
  refine ab_of2 (lv := [some (.ref (x + 11 + 1)), some (.int u), some (.int v), some (.int k), none, none]) 2 rfl rfl (Nat.le_of_ble_eq_true rfl) ?_
  refine ab_iload_n d_World_matchAt_0 rfl rfl ?_
  refine ab_istore (lv' := [some (.ref (x + 11 + 1)), some (.int u), some (.int v), some (.int k), some (.int k), none]) d_World_matchAt_1 (by decide) rfl ?_
  refine ab_iconst (v := 0) d_World_matchAt_3 (by decide) ?_
  refine ab_istore (lv' := [some (.ref (x + 11 + 1)), some (.int u), some (.int v), some (.int k), some (.int k), some (.int 0)]) d_World_matchAt_4 (by decide) rfl ?_
  refine ab_iload d_World_matchAt_6 rfl ?_
  refine ab_aload_n d_World_matchAt_8 rfl rfl rfl ?_
  refine ab_get (f := 9) d_World_matchAt_9 no rfl (by decide) (k1 231 rfl rfl) rfl ?_
  refine ab_icmp_ge (tgt := 47) d_World_matchAt_12 (by decide) (fun q1 => ?_) (fun q1 => by exact absurd (by decide) q1)
  refine ab_iconst (v := (-1)) d_World_matchAt_47 (by decide) ?_
  exact ab_iret d_World_matchAt_48 rfl (Nat.le_refl _) (Nat.le_refl _) (by exact ⟨rfl, rfl⟩)
set_option maxRecDepth 20000 in
set_option maxHeartbeats 2000000 in
theorem r_World_entityCount {h : List ab_E}  {n0 n1 n2 n3 n4 n5 n6 n7 n8 n10 n11 n12 n13 n14 n15 : Value} {x : Nat}  (no : h[x + 11 + 1]? = some (.inr (7, [n0, n1, n2, n3, n4, n5, n6, n7, n8, .int 0, n10, n11, n12, n13, n14, n15])))  : ab_M y_World_entityCount { frames := 0, cells := 0, slots := 0, locals := 0 } [.ref (x + 11 + 1)] h (ab_A (some (.int (0))) (fun h1 => h = h1)) := by
  refine ab_of2 (lv := [some (.ref (x + 11 + 1)), none, none]) 2 rfl rfl (Nat.le_of_ble_eq_true rfl) ?_
  refine ab_iconst (v := 0) d_World_entityCount_0 (by decide) ?_
  refine ab_istore_n (lv' := [some (.ref (x + 11 + 1)), some (.int 0), none]) d_World_entityCount_1 rfl (by decide) rfl ?_
  refine ab_iconst (v := 0) d_World_entityCount_2 (by decide) ?_
  refine ab_istore_n (lv' := [some (.ref (x + 11 + 1)), some (.int 0), some (.int 0)]) d_World_entityCount_3 rfl (by decide) rfl ?_
  refine ab_iload_n d_World_entityCount_4 rfl rfl ?_
  refine ab_aload_n d_World_entityCount_5 rfl rfl rfl ?_
  refine ab_get (f := 9) d_World_entityCount_6 no rfl (by decide) (k1 231 rfl rfl) rfl ?_
  refine ab_icmp_ge (tgt := 30) d_World_entityCount_9 (by decide) (fun q1 => ?_) (fun q1 => by exact absurd (by decide) q1)
  refine ab_iload_n d_World_entityCount_30 rfl rfl ?_
  exact ab_iret d_World_entityCount_31 rfl (Nat.le_refl _) (Nat.le_refl _) (by exact ⟨rfl, rfl⟩)
def sq_W_end (n : Int32) : Int32 := if n < (0 : Int32) then (0) else if n ≤ (0 : Int32) then (1) else (0)
set_option maxRecDepth 20000 in
set_option maxHeartbeats 2000000 in
theorem f_W_end {h : List ab_E}   {x : Nat} {w n : Int32}   (h0 : at_W0 h x w) : ab_M y_W_end { frames := 1, cells := 0, slots := 0, locals := 40 } [.ref x, .int n] h (ab_A (some (.int (sq_W_end n))) (fun h1 => ab_fr (in_lo x) h h1)) := by
  obtain ⟨hW, hL, hRd, hB, ⟨hP, hN, hBe, hWs, hTk, hRw⟩, hSt, ⟨hG, hG1, hGc, hG2, hG3, hGe, hG4, hG5⟩, ⟨hH, hH1, hHc, hH2, hH3, hHe, hH4, hH5⟩⟩ := h0
  have hW0 := hW; have gwo := hW
  replace gwo : h[x]? = some (.inr (0, [.ref (x + 1), .ref (x + 8), .ref (x + 11), .ref (x + 131), .ref (x + 133), .ref (x + 325), .int 0, .int (s0_W w 7), .int 0])) := gwo
  have hL0 := hL; obtain ⟨glo, gl0, gl6, gl7, gl8, gl9, gl12⟩ := hL
  replace glo : h[x + 1]? = some (.inr (1, [.ref (x + 1 + 1), .int 0, .int 0, .int 0, .int 0, .int 0, .ref (x + 1 + 2), .ref (x + 1 + 3), .ref (x + 1 + 4), .ref (x + 1 + 5), .int 0, .int 0, .ref (x + 1 + 6)])) := glo
  replace gl0 : h[x + 1 + 1]? = some (.inl (.byte, 6000, .inl (fun _ => 0))) := gl0
  replace gl6 : h[x + 1 + 2]? = some (.inl (.int, 6001, .inl (fun _ => 0))) := gl6
  replace gl7 : h[x + 1 + 3]? = some (.inl (.int, 6001, .inl (fun _ => 0))) := gl7
  replace gl8 : h[x + 1 + 4]? = some (.inl (.int, 6001, .inl (fun _ => 0))) := gl8
  replace gl9 : h[x + 1 + 5]? = some (.inl (.boolean, 6001, .inl (fun _ => 0))) := gl9
  replace gl12 : h[x + 1 + 6]? = some (.inl (.int, 42, .inl (a0_Lexer 12))) := gl12
  refine ab_of2 (lv := [some (.ref x), some (.int n)]) 0 rfl rfl (Nat.le_of_ble_eq_true rfl) ?_
  refine ab_iload_n d_W_end_0 rfl rfl ?_
  refine ab_if_lt (tgt := 15) d_W_end_1 (by decide) (fun q1 => ?_) (fun q1 => ?_)
  · refine ab_iconst (v := 0) d_W_end_15 (by decide) ?_
    exact ab_zret d_W_end_16 rfl rfl (Nat.le_refl _) (Nat.le_refl _) (by unfold sq_W_end; rw [if_pos q1]; exact ⟨rfl, (ab_fr_rf _ _)⟩)
  · refine ab_iload_n d_W_end_4 rfl rfl ?_
    refine ab_aload_n d_W_end_5 rfl rfl rfl ?_
    refine ab_get (f := 0) d_W_end_6 gwo rfl (by decide) (k3 157 rfl rfl) rfl ?_
    refine ab_get (f := 1) d_W_end_9 glo rfl (by decide) (k1 97 rfl rfl) rfl ?_
    refine ab_icmp_le (tgt := 17) d_W_end_12 (by decide) (fun q2 => ?_) (fun q2 => ?_)
    · refine ab_aload_n d_W_end_17 rfl rfl rfl ?_
      refine ab_get (f := 0) d_W_end_18 gwo rfl (by decide) (k3 157 rfl rfl) rfl ?_
      refine ab_iload_n d_W_end_21 rfl rfl ?_
      refine ab_put (f := 1) d_W_end_22 glo rfl (by decide) (k1 97 rfl rfl) rfl rfl (fun _ => rfl) (fun _ => rfl) (Nat.le_of_ble_eq_true rfl) ?_
      show ab_V _ _ _ _ _ _ _ 25 [some (.ref x), some (.int n)] [] (h.set (x+1) (.inr (1, [.ref (x + 1 + 1), .int n, .int 0, .int 0, .int 0, .int 0, .ref (x + 1 + 2), .ref (x + 1 + 3), .ref (x + 1 + 4), .ref (x + 1 + 5), .int 0, .int 0, .ref (x + 1 + 6)])))
      refine ab_gen (fun h3 e4 => ?_)
      have c5 : h3[x]? = some (.inr (0, [.ref (x + 1), .ref (x + 8), .ref (x + 11), .ref (x + 131), .ref (x + 133), .ref (x + 325), .int 0, .int (s0_W w 7), .int 0])) := ab_other e4 (by omega) gwo
      have c6 : h3[x+1]? = some (.inr (1, [.ref (x + 1 + 1), .int n, .int 0, .int 0, .int 0, .int 0, .ref (x + 1 + 2), .ref (x + 1 + 3), .ref (x + 1 + 4), .ref (x + 1 + 5), .int 0, .int 0, .ref (x + 1 + 6)])) := ab_self e4 glo
      have c7 : h3[x+1+1]? = some (.inl (.byte, 6000, .inl (fun _ => 0))) := ab_other e4 (by omega) gl0
      have c8 : h3[x+1+2]? = some (.inl (.int, 6001, .inl (fun _ => 0))) := ab_other e4 (by omega) gl6
      have c9 : h3[x+1+3]? = some (.inl (.int, 6001, .inl (fun _ => 0))) := ab_other e4 (by omega) gl7
      have c10 : h3[x+1+4]? = some (.inl (.int, 6001, .inl (fun _ => 0))) := ab_other e4 (by omega) gl8
      have c11 : h3[x+1+5]? = some (.inl (.boolean, 6001, .inl (fun _ => 0))) := ab_other e4 (by omega) gl9
      have c12 : h3[x+1+6]? = some (.inl (.int, 42, .inl (a0_Lexer 12))) := ab_other e4 (by omega) gl12
      have fr13 : ab_fr (in_lo x) h h3 := ab_fr_set (ab_fr_rf _ _) e4 (by (show _ < _; omega))
      clear e4
      refine ab_iconst (v := 1) d_W_end_25 (by decide) ?_
      exact ab_zret d_W_end_26 rfl rfl (Nat.le_refl _) (Nat.le_refl _) (by unfold sq_W_end; rw [if_neg q1]; rw [if_pos q2]; exact ⟨rfl, fr13⟩)
    · refine ab_iconst (v := 0) d_W_end_15 (by decide) ?_
      exact ab_zret d_W_end_16 rfl rfl (Nat.le_refl _) (Nat.le_refl _) (by unfold sq_W_end; rw [if_neg q1]; rw [if_neg q2]; exact ⟨rfl, (ab_fr_rf _ _)⟩)
def sq_W_fault (n : Int32) : Int32 := ((-1))
set_option maxRecDepth 20000 in
set_option maxHeartbeats 2000000 in
theorem f_W_fault {h : List ab_E}   {x : Nat} {w n : Int32}   (h0 : at_W0 h x w) : ab_M y_W_fault { frames := 1, cells := 0, slots := 0, locals := 40 } [.ref x, .int n] h (ab_A (some (.int (sq_W_fault n))) (fun h1 => ab_fr (in_lo x) h h1)) := by
  obtain ⟨hW, hL, hRd, hB, ⟨hP, hN, hBe, hWs, hTk, hRw⟩, hSt, ⟨hG, hG1, hGc, hG2, hG3, hGe, hG4, hG5⟩, ⟨hH, hH1, hHc, hH2, hH3, hHe, hH4, hH5⟩⟩ := h0
  have hW0 := hW; have gwo := hW
  replace gwo : h[x]? = some (.inr (0, [.ref (x + 1), .ref (x + 8), .ref (x + 11), .ref (x + 131), .ref (x + 133), .ref (x + 325), .int 0, .int (s0_W w 7), .int 0])) := gwo
  have hL0 := hL; obtain ⟨glo, gl0, gl6, gl7, gl8, gl9, gl12⟩ := hL
  replace glo : h[x + 1]? = some (.inr (1, [.ref (x + 1 + 1), .int 0, .int 0, .int 0, .int 0, .int 0, .ref (x + 1 + 2), .ref (x + 1 + 3), .ref (x + 1 + 4), .ref (x + 1 + 5), .int 0, .int 0, .ref (x + 1 + 6)])) := glo
  replace gl0 : h[x + 1 + 1]? = some (.inl (.byte, 6000, .inl (fun _ => 0))) := gl0
  replace gl6 : h[x + 1 + 2]? = some (.inl (.int, 6001, .inl (fun _ => 0))) := gl6
  replace gl7 : h[x + 1 + 3]? = some (.inl (.int, 6001, .inl (fun _ => 0))) := gl7
  replace gl8 : h[x + 1 + 4]? = some (.inl (.int, 6001, .inl (fun _ => 0))) := gl8
  replace gl9 : h[x + 1 + 5]? = some (.inl (.boolean, 6001, .inl (fun _ => 0))) := gl9
  replace gl12 : h[x + 1 + 6]? = some (.inl (.int, 42, .inl (a0_Lexer 12))) := gl12
  refine ab_of2 (lv := [some (.ref x), some (.int n)]) 0 rfl rfl (Nat.le_of_ble_eq_true rfl) ?_
  refine ab_aload_n d_W_fault_0 rfl rfl rfl ?_
  refine ab_get (f := 0) d_W_fault_1 gwo rfl (by decide) (k3 157 rfl rfl) rfl ?_
  refine ab_get (f := 4) d_W_fault_4 glo rfl (by decide) (k1 105 rfl rfl) rfl ?_
  refine ab_if_ne (tgt := 12) d_W_fault_7 (by decide) (fun q1 => by exact absurd q1 (by decide)) (fun q1 => ?_)
  refine ab_iconst (v := (-1)) d_W_fault_10 (by decide) ?_
  exact ab_iret d_W_fault_11 rfl (Nat.le_refl _) (Nat.le_refl _) (by unfold sq_W_fault; exact ⟨rfl, (ab_fr_rf _ _)⟩)
def sq_W_make (n : Int32) : Int32 := if n < (0 : Int32) then ((-1)) else ((-1))
set_option maxRecDepth 20000 in
set_option maxHeartbeats 2000000 in
theorem f_W_make {h : List ab_E}     {x : Nat} {w n : Int32}     (h0 : at_W0 h x w) : ab_M y_W_make { frames := 1, cells := 0, slots := 0, locals := 40 } [.ref x, .int n] h (ab_A (some (.int (sq_W_make n))) (fun h1 => ab_fr (in_lo x) h h1)) := by
  obtain ⟨hW, hL, hRd, hB, ⟨hP, hN, hBe, hWs, hTk, hRw⟩, hSt, ⟨hG, hG1, hGc, hG2, hG3, hGe, hG4, hG5⟩, ⟨hH, hH1, hHc, hH2, hH3, hHe, hH4, hH5⟩⟩ := h0
  have hW0 := hW; have gwo := hW
  replace gwo : h[x]? = some (.inr (0, [.ref (x + 1), .ref (x + 8), .ref (x + 11), .ref (x + 131), .ref (x + 133), .ref (x + 325), .int 0, .int (s0_W w 7), .int 0])) := gwo
  have hP0 := hP; obtain ⟨gpo, gp4, gp8, gp9, gp10, gp11, gp12, gp13⟩ := hP
  replace gpo : h[x + 11]? = some (.inr (10, [.ref (x + 11 + 1), .int 0, .int 1, .int 0, .ref (x + 11 + 104), .int 0, .ref (x + 11 + 7), .ref (x + 11 + 105), .ref (x + 11 + 114), .ref (x + 11 + 115), .ref (x + 11 + 116), .ref (x + 11 + 117), .ref (x + 11 + 118), .ref (x + 11 + 119)])) := gpo
  replace gp4 : h[x + 11 + 104]? = some (.inl (.int, 256, .inl (fun _ => 0))) := gp4
  replace gp8 : h[x + 11 + 114]? = some (.inl (.boolean, 256, .inl (fun _ => 0))) := gp8
  replace gp9 : h[x + 11 + 115]? = some (.inl (.int, 256, .inl (fun _ => 0))) := gp9
  replace gp10 : h[x + 11 + 116]? = some (.inl (.int, 4, .inl (fun _ => 0))) := gp10
  replace gp11 : h[x + 11 + 117]? = some (.inl (.int, 16, .inl (fun _ => 0))) := gp11
  replace gp12 : h[x + 11 + 118]? = some (.inl (.int, 64, .inl (fun _ => 0))) := gp12
  replace gp13 : h[x + 11 + 119]? = some (.inl (.int, 4, .inl (fun _ => 0))) := gp13
  have hN0 := hN; obtain ⟨gno, gn7, gn8, gn11, gn12, gn14⟩ := hN
  replace gno : h[x + 11 + 1]? = some (.inr (7, [.int 0, .int 0, .int 0, .int 0, .int 0, .int 0, .int 0, .ref (x + 11 + 1 + 1), .ref (x + 11 + 1 + 2), .int 0, .int 0, .ref (x + 11 + 1 + 3), .ref (x + 11 + 1 + 4), .int 0, .ref (x + 11 + 1 + 5), .int 0])) := gno
  replace gn7 : h[x + 11 + 1 + 1]? = some (.inl (.int, 256, .inl (fun _ => 0))) := gn7
  replace gn8 : h[x + 11 + 1 + 2]? = some (.inl (.int, 256, .inl (a0_World 8))) := gn8
  replace gn11 : h[x + 11 + 1 + 3]? = some (.inl (.int, 12288, .inl (fun _ => 0))) := gn11
  replace gn12 : h[x + 11 + 1 + 4]? = some (.inl (.int, 1792, .inl (fun _ => 0))) := gn12
  replace gn14 : h[x + 11 + 1 + 5]? = some (.inl (.int, 32, .inl (fun _ => 0))) := gn14
  have hG0 := hG; obtain ⟨ggo, gg5, gg6, gg8, gg9, gg10, gg11, gg12, gg13, gg14, gg16⟩ := hG
  replace ggo : h[x + 133]? = some (.inr (4, [.ref (x + 133 + 1), .int 0, .ref (x + 133 + 70), .ref (x + 133 + 138), .int 0, .ref (x + 133 + 182), .ref (x + 133 + 183), .int 0, .ref (x + 133 + 184), .ref (x + 133 + 185), .ref (x + 133 + 186), .ref (x + 133 + 187), .ref (x + 133 + 188), .ref (x + 133 + 189), .ref (x + 133 + 190), .int 0, .ref (x + 133 + 191), .int 0])) := ggo
  replace gg5 : h[x + 133 + 182]? = some (.inl (.int, 16, .inl (fun _ => 0))) := gg5
  replace gg6 : h[x + 133 + 183]? = some (.inl (.int, 768, .inl (fun _ => 0))) := gg6
  replace gg8 : h[x + 133 + 184]? = some (.inl (.int, 16, .inl (fun _ => 0))) := gg8
  replace gg9 : h[x + 133 + 185]? = some (.inl (.int, 16, .inl (fun _ => 0))) := gg9
  replace gg10 : h[x + 133 + 186]? = some (.inl (.int, 16, .inl (fun _ => 0))) := gg10
  replace gg11 : h[x + 133 + 187]? = some (.inl (.int, 16, .inl (fun _ => 0))) := gg11
  replace gg12 : h[x + 133 + 188]? = some (.inl (.int, 16, .inl (fun _ => 0))) := gg12
  replace gg13 : h[x + 133 + 189]? = some (.inl (.int, 16, .inl (fun _ => 0))) := gg13
  replace gg14 : h[x + 133 + 190]? = some (.inl (.int, 16, .inl (fun _ => 0))) := gg14
  replace gg16 : h[x + 133 + 191]? = some (.inl (.int, 12000, .inl (fun _ => 0))) := gg16
  refine ab_of2 (lv := [some (.ref x), some (.int n), none]) 1 rfl rfl (Nat.le_of_ble_eq_true rfl) ?_
  refine ab_aload_n d_W_make_0 rfl rfl rfl ?_
  refine ab_get (f := 2) d_W_make_1 gwo rfl (by decide) (k3 159 rfl rfl) rfl ?_
  refine ab_callV_a (As := []) (rest := []) d_W_make_4 (r_Play_isQuiet gpo gno) (ab_mkC s_Play_isQuiet (Nat.le_of_ble_eq_true rfl) (Nat.le_of_ble_eq_true rfl) (by decide) (by decide)) (k6 95 rfl rfl) i_Play_isQuiet v_Play_isQuiet gpo rfl rfl (Nat.le_of_ble_eq_true rfl) (fun h2 q1 => ?_)
  subst q1
  refine ab_if_ne (tgt := 13) d_W_make_7 (by decide) (fun q3 => ?_) (fun q3 => by exact absurd q3 (by decide))
  refine ab_iload_n d_W_make_13 rfl rfl ?_
  refine ab_if_lt (tgt := 28) d_W_make_14 (by decide) (fun q4 => ?_) (fun q4 => ?_)
  · refine ab_iconst (v := (-1)) d_W_make_28 (by decide) ?_
    exact ab_iret d_W_make_29 rfl (Nat.le_refl _) (Nat.le_refl _) (by unfold sq_W_make; rw [if_pos q4]; exact ⟨rfl, (ab_fr_rf _ _)⟩)
  · refine ab_iload_n d_W_make_17 rfl rfl ?_
    refine ab_aload_n d_W_make_18 rfl rfl rfl ?_
    refine ab_get (f := 4) d_W_make_19 gwo rfl (by decide) (k3 161 rfl rfl) rfl ?_
    refine ab_get (f := 4) d_W_make_22 ggo rfl (by decide) (k3 71 rfl rfl) rfl ?_
    refine ab_icmp_lt (tgt := 30) d_W_make_25 (by decide) (fun q5 => by exact absurd q5 (by first | assumption | exact Int32.not_lt.mpr (by assumption) | exact Int32.not_le.mpr (by assumption))) (fun q5 => ?_)
    refine ab_iconst (v := (-1)) d_W_make_28 (by decide) ?_
    exact ab_iret d_W_make_29 rfl (Nat.le_refl _) (Nat.le_refl _) (by unfold sq_W_make; rw [if_neg q4]; exact ⟨rfl, (ab_fr_rf _ _)⟩)
def sq_W_change (a : Int32) (b : Int32) (c : Int32) : Int32 := if a < (0 : Int32) then ((-1)) else if (2 : Int32) < a then ((-1)) else ((-1))
set_option maxRecDepth 20000 in
set_option maxHeartbeats 2000000 in
theorem f_W_change {h : List ab_E}     {x : Nat} {w a b c : Int32}     (h0 : at_W0 h x w) : ab_M y_W_change { frames := 1, cells := 0, slots := 0, locals := 40 } [.ref x, .int a, .int b, .int c] h (ab_A (some (.int (sq_W_change a b c))) (fun h1 => ab_fr (in_lo x) h h1)) := by
  obtain ⟨hW, hL, hRd, hB, ⟨hP, hN, hBe, hWs, hTk, hRw⟩, hSt, ⟨hG, hG1, hGc, hG2, hG3, hGe, hG4, hG5⟩, ⟨hH, hH1, hHc, hH2, hH3, hHe, hH4, hH5⟩⟩ := h0
  have hW0 := hW; have gwo := hW
  replace gwo : h[x]? = some (.inr (0, [.ref (x + 1), .ref (x + 8), .ref (x + 11), .ref (x + 131), .ref (x + 133), .ref (x + 325), .int 0, .int (s0_W w 7), .int 0])) := gwo
  have hP0 := hP; obtain ⟨gpo, gp4, gp8, gp9, gp10, gp11, gp12, gp13⟩ := hP
  replace gpo : h[x + 11]? = some (.inr (10, [.ref (x + 11 + 1), .int 0, .int 1, .int 0, .ref (x + 11 + 104), .int 0, .ref (x + 11 + 7), .ref (x + 11 + 105), .ref (x + 11 + 114), .ref (x + 11 + 115), .ref (x + 11 + 116), .ref (x + 11 + 117), .ref (x + 11 + 118), .ref (x + 11 + 119)])) := gpo
  replace gp4 : h[x + 11 + 104]? = some (.inl (.int, 256, .inl (fun _ => 0))) := gp4
  replace gp8 : h[x + 11 + 114]? = some (.inl (.boolean, 256, .inl (fun _ => 0))) := gp8
  replace gp9 : h[x + 11 + 115]? = some (.inl (.int, 256, .inl (fun _ => 0))) := gp9
  replace gp10 : h[x + 11 + 116]? = some (.inl (.int, 4, .inl (fun _ => 0))) := gp10
  replace gp11 : h[x + 11 + 117]? = some (.inl (.int, 16, .inl (fun _ => 0))) := gp11
  replace gp12 : h[x + 11 + 118]? = some (.inl (.int, 64, .inl (fun _ => 0))) := gp12
  replace gp13 : h[x + 11 + 119]? = some (.inl (.int, 4, .inl (fun _ => 0))) := gp13
  have hN0 := hN; obtain ⟨gno, gn7, gn8, gn11, gn12, gn14⟩ := hN
  replace gno : h[x + 11 + 1]? = some (.inr (7, [.int 0, .int 0, .int 0, .int 0, .int 0, .int 0, .int 0, .ref (x + 11 + 1 + 1), .ref (x + 11 + 1 + 2), .int 0, .int 0, .ref (x + 11 + 1 + 3), .ref (x + 11 + 1 + 4), .int 0, .ref (x + 11 + 1 + 5), .int 0])) := gno
  replace gn7 : h[x + 11 + 1 + 1]? = some (.inl (.int, 256, .inl (fun _ => 0))) := gn7
  replace gn8 : h[x + 11 + 1 + 2]? = some (.inl (.int, 256, .inl (a0_World 8))) := gn8
  replace gn11 : h[x + 11 + 1 + 3]? = some (.inl (.int, 12288, .inl (fun _ => 0))) := gn11
  replace gn12 : h[x + 11 + 1 + 4]? = some (.inl (.int, 1792, .inl (fun _ => 0))) := gn12
  replace gn14 : h[x + 11 + 1 + 5]? = some (.inl (.int, 32, .inl (fun _ => 0))) := gn14
  have hG0 := hG; obtain ⟨ggo, gg5, gg6, gg8, gg9, gg10, gg11, gg12, gg13, gg14, gg16⟩ := hG
  replace ggo : h[x + 133]? = some (.inr (4, [.ref (x + 133 + 1), .int 0, .ref (x + 133 + 70), .ref (x + 133 + 138), .int 0, .ref (x + 133 + 182), .ref (x + 133 + 183), .int 0, .ref (x + 133 + 184), .ref (x + 133 + 185), .ref (x + 133 + 186), .ref (x + 133 + 187), .ref (x + 133 + 188), .ref (x + 133 + 189), .ref (x + 133 + 190), .int 0, .ref (x + 133 + 191), .int 0])) := ggo
  replace gg5 : h[x + 133 + 182]? = some (.inl (.int, 16, .inl (fun _ => 0))) := gg5
  replace gg6 : h[x + 133 + 183]? = some (.inl (.int, 768, .inl (fun _ => 0))) := gg6
  replace gg8 : h[x + 133 + 184]? = some (.inl (.int, 16, .inl (fun _ => 0))) := gg8
  replace gg9 : h[x + 133 + 185]? = some (.inl (.int, 16, .inl (fun _ => 0))) := gg9
  replace gg10 : h[x + 133 + 186]? = some (.inl (.int, 16, .inl (fun _ => 0))) := gg10
  replace gg11 : h[x + 133 + 187]? = some (.inl (.int, 16, .inl (fun _ => 0))) := gg11
  replace gg12 : h[x + 133 + 188]? = some (.inl (.int, 16, .inl (fun _ => 0))) := gg12
  replace gg13 : h[x + 133 + 189]? = some (.inl (.int, 16, .inl (fun _ => 0))) := gg13
  replace gg14 : h[x + 133 + 190]? = some (.inl (.int, 16, .inl (fun _ => 0))) := gg14
  replace gg16 : h[x + 133 + 191]? = some (.inl (.int, 12000, .inl (fun _ => 0))) := gg16
  refine ab_of2 (lv := [some (.ref x), some (.int a), some (.int b), some (.int c), none, none]) 2 rfl rfl (Nat.le_of_ble_eq_true rfl) ?_
  refine ab_aload_n d_W_change_0 rfl rfl rfl ?_
  refine ab_get (f := 2) d_W_change_1 gwo rfl (by decide) (k3 159 rfl rfl) rfl ?_
  refine ab_callV_a (As := []) (rest := []) d_W_change_4 (r_Play_isQuiet gpo gno) (ab_mkC s_Play_isQuiet (Nat.le_of_ble_eq_true rfl) (Nat.le_of_ble_eq_true rfl) (by decide) (by decide)) (k6 95 rfl rfl) i_Play_isQuiet v_Play_isQuiet gpo rfl rfl (Nat.le_of_ble_eq_true rfl) (fun h2 q1 => ?_)
  subst q1
  refine ab_if_ne (tgt := 13) d_W_change_7 (by decide) (fun q3 => ?_) (fun q3 => by exact absurd q3 (by decide))
  refine ab_aload_n d_W_change_13 rfl rfl rfl ?_
  refine ab_get (f := 2) d_W_change_14 gwo rfl (by decide) (k3 159 rfl rfl) rfl ?_
  refine ab_get (f := 0) d_W_change_17 gpo rfl (by decide) (k2 131 rfl rfl) rfl ?_
  refine ab_astore (lv' := [some (.ref x), some (.int a), some (.int b), some (.int c), some (.ref (x + 11 + 1)), none]) d_W_change_20 (by decide) rfl rfl ?_
  refine ab_aload d_W_change_22 rfl rfl ?_
  refine ab_iload_n d_W_change_24 rfl rfl ?_
  refine ab_callV_a (As := [.int b]) (rest := []) d_W_change_25 (r_World_placeOf gno gn8) (ab_mkC s_World_placeOf (Nat.le_of_ble_eq_true rfl) (Nat.le_of_ble_eq_true rfl) (by decide) (by decide)) (k7 177 rfl rfl) i_World_placeOf v_World_placeOf gno rfl rfl (Nat.le_of_ble_eq_true rfl) (fun h5 q4 => ?_)
  subst q4
  refine ab_istore (lv' := [some (.ref x), some (.int a), some (.int b), some (.int c), some (.ref (x + 11 + 1)), some (.int (-1))]) d_W_change_28 (by decide) rfl ?_
  refine ab_iload_n d_W_change_30 rfl rfl ?_
  refine ab_if_lt (tgt := 44) d_W_change_31 (by decide) (fun q6 => ?_) (fun q6 => ?_)
  · refine ab_iconst (v := (-1)) d_W_change_44 (by decide) ?_
    exact ab_iret d_W_change_45 rfl (Nat.le_refl _) (Nat.le_refl _) (by unfold sq_W_change; rw [if_pos q6]; exact ⟨rfl, (ab_fr_rf _ _)⟩)
  · refine ab_iload_n d_W_change_34 rfl rfl ?_
    refine ab_iconst (v := 2) d_W_change_35 (by decide) ?_
    refine ab_icmp_gt (tgt := 44) d_W_change_36 (by decide) (fun q7 => ?_) (fun q7 => ?_)
    · refine ab_iconst (v := (-1)) d_W_change_44 (by decide) ?_
      exact ab_iret d_W_change_45 rfl (Nat.le_refl _) (Nat.le_refl _) (by unfold sq_W_change; rw [if_neg q6]; rw [if_pos q7]; exact ⟨rfl, (ab_fr_rf _ _)⟩)
    · refine ab_iload d_W_change_39 rfl ?_
      refine ab_if_ge (tgt := 46) d_W_change_41 (by decide) (fun q8 => by exact absurd q8 (by decide)) (fun q8 => ?_)
      refine ab_iconst (v := (-1)) d_W_change_44 (by decide) ?_
      exact ab_iret d_W_change_45 rfl (Nat.le_refl _) (Nat.le_refl _) (by unfold sq_W_change; rw [if_neg q6]; rw [if_neg q7]; exact ⟨rfl, (ab_fr_rf _ _)⟩)
def sq_W_set (a : Int32) (b : Int32) (c : Int32) (d : Int32) : Int32 := ((-1))
set_option maxRecDepth 20000 in
set_option maxHeartbeats 2000000 in
theorem f_W_set {h : List ab_E}    {x : Nat} {w a b c d : Int32}    (h0 : at_W0 h x w) : ab_M y_W_set { frames := 3, cells := 0, slots := 0, locals := 120 } [.ref x, .int a, .int b, .int c, .int d] h (ab_A (some (.int (sq_W_set a b c d))) (fun h1 => ab_fr (in_lo x) h h1)) := by
  obtain ⟨hW, hL, hRd, hB, ⟨hP, hN, hBe, hWs, hTk, hRw⟩, hSt, ⟨hG, hG1, hGc, hG2, hG3, hGe, hG4, hG5⟩, ⟨hH, hH1, hHc, hH2, hH3, hHe, hH4, hH5⟩⟩ := h0
  have hW0 := hW; have gwo := hW
  replace gwo : h[x]? = some (.inr (0, [.ref (x + 1), .ref (x + 8), .ref (x + 11), .ref (x + 131), .ref (x + 133), .ref (x + 325), .int 0, .int (s0_W w 7), .int 0])) := gwo
  have hP0 := hP; obtain ⟨gpo, gp4, gp8, gp9, gp10, gp11, gp12, gp13⟩ := hP
  replace gpo : h[x + 11]? = some (.inr (10, [.ref (x + 11 + 1), .int 0, .int 1, .int 0, .ref (x + 11 + 104), .int 0, .ref (x + 11 + 7), .ref (x + 11 + 105), .ref (x + 11 + 114), .ref (x + 11 + 115), .ref (x + 11 + 116), .ref (x + 11 + 117), .ref (x + 11 + 118), .ref (x + 11 + 119)])) := gpo
  replace gp4 : h[x + 11 + 104]? = some (.inl (.int, 256, .inl (fun _ => 0))) := gp4
  replace gp8 : h[x + 11 + 114]? = some (.inl (.boolean, 256, .inl (fun _ => 0))) := gp8
  replace gp9 : h[x + 11 + 115]? = some (.inl (.int, 256, .inl (fun _ => 0))) := gp9
  replace gp10 : h[x + 11 + 116]? = some (.inl (.int, 4, .inl (fun _ => 0))) := gp10
  replace gp11 : h[x + 11 + 117]? = some (.inl (.int, 16, .inl (fun _ => 0))) := gp11
  replace gp12 : h[x + 11 + 118]? = some (.inl (.int, 64, .inl (fun _ => 0))) := gp12
  replace gp13 : h[x + 11 + 119]? = some (.inl (.int, 4, .inl (fun _ => 0))) := gp13
  have hN0 := hN; obtain ⟨gno, gn7, gn8, gn11, gn12, gn14⟩ := hN
  replace gno : h[x + 11 + 1]? = some (.inr (7, [.int 0, .int 0, .int 0, .int 0, .int 0, .int 0, .int 0, .ref (x + 11 + 1 + 1), .ref (x + 11 + 1 + 2), .int 0, .int 0, .ref (x + 11 + 1 + 3), .ref (x + 11 + 1 + 4), .int 0, .ref (x + 11 + 1 + 5), .int 0])) := gno
  replace gn7 : h[x + 11 + 1 + 1]? = some (.inl (.int, 256, .inl (fun _ => 0))) := gn7
  replace gn8 : h[x + 11 + 1 + 2]? = some (.inl (.int, 256, .inl (a0_World 8))) := gn8
  replace gn11 : h[x + 11 + 1 + 3]? = some (.inl (.int, 12288, .inl (fun _ => 0))) := gn11
  replace gn12 : h[x + 11 + 1 + 4]? = some (.inl (.int, 1792, .inl (fun _ => 0))) := gn12
  replace gn14 : h[x + 11 + 1 + 5]? = some (.inl (.int, 32, .inl (fun _ => 0))) := gn14
  refine ab_of2 (lv := [some (.ref x), some (.int a), some (.int b), some (.int c), some (.int d), none, none, none]) 3 rfl rfl (Nat.le_of_ble_eq_true rfl) ?_
  refine ab_aload_n d_W_set_0 rfl rfl rfl ?_
  refine ab_get (f := 2) d_W_set_1 gwo rfl (by decide) (k3 159 rfl rfl) rfl ?_
  refine ab_callV_a (As := []) (rest := []) d_W_set_4 (r_Play_isQuiet gpo gno) (ab_mkC s_Play_isQuiet (Nat.le_of_ble_eq_true rfl) (Nat.le_of_ble_eq_true rfl) (by decide) (by decide)) (k6 95 rfl rfl) i_Play_isQuiet v_Play_isQuiet gpo rfl rfl (Nat.le_of_ble_eq_true rfl) (fun h2 q1 => ?_)
  subst q1
  refine ab_if_ne (tgt := 13) d_W_set_7 (by decide) (fun q3 => ?_) (fun q3 => by exact absurd q3 (by decide))
  refine ab_aload_n d_W_set_13 rfl rfl rfl ?_
  refine ab_iload_n d_W_set_14 rfl rfl ?_
  refine ab_iload_n d_W_set_15 rfl rfl ?_
  refine ab_iload_n d_W_set_16 rfl rfl ?_
  refine ab_callV_a (As := [.int a, .int b, .int c]) (rest := []) d_W_set_17 (r_W_offsetOf gwo gpo gno gn8) (ab_mkC s_W_offsetOf (Nat.le_of_ble_eq_true rfl) (Nat.le_of_ble_eq_true rfl) (by decide) (by decide)) (k7 186 rfl rfl) i_W_offsetOf v_W_offsetOf gwo rfl rfl (Nat.le_of_ble_eq_true rfl) (fun h5 q4 => ?_)
  subst q4
  refine ab_istore (lv' := [some (.ref x), some (.int a), some (.int b), some (.int c), some (.int d), some (.int (-1)), none, none]) d_W_set_20 (by decide) rfl ?_
  refine ab_iload d_W_set_22 rfl ?_
  refine ab_if_ge (tgt := 29) d_W_set_24 (by decide) (fun q6 => by exact absurd q6 (by decide)) (fun q6 => ?_)
  refine ab_iconst (v := (-1)) d_W_set_27 (by decide) ?_
  exact ab_iret d_W_set_28 rfl (Nat.le_refl _) (Nat.le_refl _) (by unfold sq_W_set; exact ⟨rfl, (ab_fr_rf _ _)⟩)
def sq_W_has (a : Int32) (b : Int32) : Int32 := (0)
set_option maxRecDepth 20000 in
set_option maxHeartbeats 2000000 in
theorem f_W_has {h : List ab_E}    {x : Nat} {w a b : Int32}    (h0 : at_W0 h x w) : ab_M y_W_has { frames := 1, cells := 0, slots := 0, locals := 40 } [.ref x, .int a, .int b] h (ab_A (some (.int (sq_W_has a b))) (fun h1 => ab_fr (in_lo x) h h1)) := by
  obtain ⟨hW, hL, hRd, hB, ⟨hP, hN, hBe, hWs, hTk, hRw⟩, hSt, ⟨hG, hG1, hGc, hG2, hG3, hGe, hG4, hG5⟩, ⟨hH, hH1, hHc, hH2, hH3, hHe, hH4, hH5⟩⟩ := h0
  have hW0 := hW; have gwo := hW
  replace gwo : h[x]? = some (.inr (0, [.ref (x + 1), .ref (x + 8), .ref (x + 11), .ref (x + 131), .ref (x + 133), .ref (x + 325), .int 0, .int (s0_W w 7), .int 0])) := gwo
  have hP0 := hP; obtain ⟨gpo, gp4, gp8, gp9, gp10, gp11, gp12, gp13⟩ := hP
  replace gpo : h[x + 11]? = some (.inr (10, [.ref (x + 11 + 1), .int 0, .int 1, .int 0, .ref (x + 11 + 104), .int 0, .ref (x + 11 + 7), .ref (x + 11 + 105), .ref (x + 11 + 114), .ref (x + 11 + 115), .ref (x + 11 + 116), .ref (x + 11 + 117), .ref (x + 11 + 118), .ref (x + 11 + 119)])) := gpo
  replace gp4 : h[x + 11 + 104]? = some (.inl (.int, 256, .inl (fun _ => 0))) := gp4
  replace gp8 : h[x + 11 + 114]? = some (.inl (.boolean, 256, .inl (fun _ => 0))) := gp8
  replace gp9 : h[x + 11 + 115]? = some (.inl (.int, 256, .inl (fun _ => 0))) := gp9
  replace gp10 : h[x + 11 + 116]? = some (.inl (.int, 4, .inl (fun _ => 0))) := gp10
  replace gp11 : h[x + 11 + 117]? = some (.inl (.int, 16, .inl (fun _ => 0))) := gp11
  replace gp12 : h[x + 11 + 118]? = some (.inl (.int, 64, .inl (fun _ => 0))) := gp12
  replace gp13 : h[x + 11 + 119]? = some (.inl (.int, 4, .inl (fun _ => 0))) := gp13
  have hN0 := hN; obtain ⟨gno, gn7, gn8, gn11, gn12, gn14⟩ := hN
  replace gno : h[x + 11 + 1]? = some (.inr (7, [.int 0, .int 0, .int 0, .int 0, .int 0, .int 0, .int 0, .ref (x + 11 + 1 + 1), .ref (x + 11 + 1 + 2), .int 0, .int 0, .ref (x + 11 + 1 + 3), .ref (x + 11 + 1 + 4), .int 0, .ref (x + 11 + 1 + 5), .int 0])) := gno
  replace gn7 : h[x + 11 + 1 + 1]? = some (.inl (.int, 256, .inl (fun _ => 0))) := gn7
  replace gn8 : h[x + 11 + 1 + 2]? = some (.inl (.int, 256, .inl (a0_World 8))) := gn8
  replace gn11 : h[x + 11 + 1 + 3]? = some (.inl (.int, 12288, .inl (fun _ => 0))) := gn11
  replace gn12 : h[x + 11 + 1 + 4]? = some (.inl (.int, 1792, .inl (fun _ => 0))) := gn12
  replace gn14 : h[x + 11 + 1 + 5]? = some (.inl (.int, 32, .inl (fun _ => 0))) := gn14
  refine ab_of2 (lv := [some (.ref x), some (.int a), some (.int b), none]) 1 rfl rfl (Nat.le_of_ble_eq_true rfl) ?_
  refine ab_aload_n d_W_has_0 rfl rfl rfl ?_
  refine ab_get (f := 2) d_W_has_1 gwo rfl (by decide) (k3 159 rfl rfl) rfl ?_
  refine ab_get (f := 0) d_W_has_4 gpo rfl (by decide) (k2 131 rfl rfl) rfl ?_
  refine ab_iload_n d_W_has_7 rfl rfl ?_
  refine ab_callV_a (As := [.int a]) (rest := []) d_W_has_8 (r_World_placeOf gno gn8) (ab_mkC s_World_placeOf (Nat.le_of_ble_eq_true rfl) (Nat.le_of_ble_eq_true rfl) (by decide) (by decide)) (k7 177 rfl rfl) i_World_placeOf v_World_placeOf gno rfl rfl (Nat.le_of_ble_eq_true rfl) (fun h2 q1 => ?_)
  subst q1
  refine ab_istore_n (lv' := [some (.ref x), some (.int a), some (.int b), some (.int (-1))]) d_W_has_11 rfl (by decide) rfl ?_
  refine ab_iload_n d_W_has_12 rfl rfl ?_
  refine ab_if_lt (tgt := 34) d_W_has_13 (by decide) (fun q3 => ?_) (fun q3 => by exact absurd (by decide) q3)
  refine ab_iconst (v := 0) d_W_has_34 (by decide) ?_
  exact ab_zret d_W_has_35 rfl rfl (Nat.le_refl _) (Nat.le_refl _) (by unfold sq_W_has; exact ⟨rfl, (ab_fr_rf _ _)⟩)
def sq_W_entity (k : Int32) : Int32 := ((-1))
set_option maxRecDepth 20000 in
set_option maxHeartbeats 2000000 in
theorem f_W_entity {h : List ab_E}    {x : Nat} {w k : Int32}    (h0 : at_W0 h x w) : ab_M y_W_entity { frames := 1, cells := 0, slots := 0, locals := 40 } [.ref x, .int k] h (ab_A (some (.int (sq_W_entity k))) (fun h1 => ab_fr (in_lo x) h h1)) := by
  obtain ⟨hW, hL, hRd, hB, ⟨hP, hN, hBe, hWs, hTk, hRw⟩, hSt, ⟨hG, hG1, hGc, hG2, hG3, hGe, hG4, hG5⟩, ⟨hH, hH1, hHc, hH2, hH3, hHe, hH4, hH5⟩⟩ := h0
  have hW0 := hW; have gwo := hW
  replace gwo : h[x]? = some (.inr (0, [.ref (x + 1), .ref (x + 8), .ref (x + 11), .ref (x + 131), .ref (x + 133), .ref (x + 325), .int 0, .int (s0_W w 7), .int 0])) := gwo
  have hP0 := hP; obtain ⟨gpo, gp4, gp8, gp9, gp10, gp11, gp12, gp13⟩ := hP
  replace gpo : h[x + 11]? = some (.inr (10, [.ref (x + 11 + 1), .int 0, .int 1, .int 0, .ref (x + 11 + 104), .int 0, .ref (x + 11 + 7), .ref (x + 11 + 105), .ref (x + 11 + 114), .ref (x + 11 + 115), .ref (x + 11 + 116), .ref (x + 11 + 117), .ref (x + 11 + 118), .ref (x + 11 + 119)])) := gpo
  replace gp4 : h[x + 11 + 104]? = some (.inl (.int, 256, .inl (fun _ => 0))) := gp4
  replace gp8 : h[x + 11 + 114]? = some (.inl (.boolean, 256, .inl (fun _ => 0))) := gp8
  replace gp9 : h[x + 11 + 115]? = some (.inl (.int, 256, .inl (fun _ => 0))) := gp9
  replace gp10 : h[x + 11 + 116]? = some (.inl (.int, 4, .inl (fun _ => 0))) := gp10
  replace gp11 : h[x + 11 + 117]? = some (.inl (.int, 16, .inl (fun _ => 0))) := gp11
  replace gp12 : h[x + 11 + 118]? = some (.inl (.int, 64, .inl (fun _ => 0))) := gp12
  replace gp13 : h[x + 11 + 119]? = some (.inl (.int, 4, .inl (fun _ => 0))) := gp13
  have hN0 := hN; obtain ⟨gno, gn7, gn8, gn11, gn12, gn14⟩ := hN
  replace gno : h[x + 11 + 1]? = some (.inr (7, [.int 0, .int 0, .int 0, .int 0, .int 0, .int 0, .int 0, .ref (x + 11 + 1 + 1), .ref (x + 11 + 1 + 2), .int 0, .int 0, .ref (x + 11 + 1 + 3), .ref (x + 11 + 1 + 4), .int 0, .ref (x + 11 + 1 + 5), .int 0])) := gno
  replace gn7 : h[x + 11 + 1 + 1]? = some (.inl (.int, 256, .inl (fun _ => 0))) := gn7
  replace gn8 : h[x + 11 + 1 + 2]? = some (.inl (.int, 256, .inl (a0_World 8))) := gn8
  replace gn11 : h[x + 11 + 1 + 3]? = some (.inl (.int, 12288, .inl (fun _ => 0))) := gn11
  replace gn12 : h[x + 11 + 1 + 4]? = some (.inl (.int, 1792, .inl (fun _ => 0))) := gn12
  replace gn14 : h[x + 11 + 1 + 5]? = some (.inl (.int, 32, .inl (fun _ => 0))) := gn14
  refine ab_of2 (lv := [some (.ref x), some (.int k)]) 0 rfl rfl (Nat.le_of_ble_eq_true rfl) ?_
  refine ab_aload_n d_W_entity_0 rfl rfl rfl ?_
  refine ab_get (f := 2) d_W_entity_1 gwo rfl (by decide) (k3 159 rfl rfl) rfl ?_
  refine ab_get (f := 0) d_W_entity_4 gpo rfl (by decide) (k2 131 rfl rfl) rfl ?_
  refine ab_iconst (v := 0) d_W_entity_7 (by decide) ?_
  refine ab_iconst (v := 0) d_W_entity_8 (by decide) ?_
  refine ab_iload_n d_W_entity_9 rfl rfl ?_
  refine ab_callV_a (As := [.int 0, .int 0, .int k]) (rest := []) d_W_entity_10 (r_World_matchAt gno) (ab_mkC s_World_matchAt (Nat.le_of_ble_eq_true rfl) (Nat.le_of_ble_eq_true rfl) (by decide) (by decide)) (k7 201 rfl rfl) i_World_matchAt v_World_matchAt gno rfl rfl (Nat.le_of_ble_eq_true rfl) (fun h2 q1 => ?_)
  subst q1
  exact ab_iret d_W_entity_13 rfl (Nat.le_refl _) (Nat.le_refl _) (by unfold sq_W_entity; exact ⟨rfl, (ab_fr_rf _ _)⟩)
def sq_W_row (a : Int32) (k : Int32) : Int32 := if a < (0 : Int32) then ((-1)) else ((-1))
set_option maxRecDepth 20000 in
set_option maxHeartbeats 2000000 in
theorem f_W_row {h : List ab_E}   {x : Nat} {w a k : Int32}   (h0 : at_W0 h x w) : ab_M y_W_row { frames := 1, cells := 0, slots := 0, locals := 40 } [.ref x, .int a, .int k] h (ab_A (some (.int (sq_W_row a k))) (fun h1 => ab_fr (in_lo x) h h1)) := by
  obtain ⟨hW, hL, hRd, hB, ⟨hP, hN, hBe, hWs, hTk, hRw⟩, hSt, ⟨hG, hG1, hGc, hG2, hG3, hGe, hG4, hG5⟩, ⟨hH, hH1, hHc, hH2, hH3, hHe, hH4, hH5⟩⟩ := h0
  have hW0 := hW; have gwo := hW
  replace gwo : h[x]? = some (.inr (0, [.ref (x + 1), .ref (x + 8), .ref (x + 11), .ref (x + 131), .ref (x + 133), .ref (x + 325), .int 0, .int (s0_W w 7), .int 0])) := gwo
  have hG0 := hG; obtain ⟨ggo, gg5, gg6, gg8, gg9, gg10, gg11, gg12, gg13, gg14, gg16⟩ := hG
  replace ggo : h[x + 133]? = some (.inr (4, [.ref (x + 133 + 1), .int 0, .ref (x + 133 + 70), .ref (x + 133 + 138), .int 0, .ref (x + 133 + 182), .ref (x + 133 + 183), .int 0, .ref (x + 133 + 184), .ref (x + 133 + 185), .ref (x + 133 + 186), .ref (x + 133 + 187), .ref (x + 133 + 188), .ref (x + 133 + 189), .ref (x + 133 + 190), .int 0, .ref (x + 133 + 191), .int 0])) := ggo
  replace gg5 : h[x + 133 + 182]? = some (.inl (.int, 16, .inl (fun _ => 0))) := gg5
  replace gg6 : h[x + 133 + 183]? = some (.inl (.int, 768, .inl (fun _ => 0))) := gg6
  replace gg8 : h[x + 133 + 184]? = some (.inl (.int, 16, .inl (fun _ => 0))) := gg8
  replace gg9 : h[x + 133 + 185]? = some (.inl (.int, 16, .inl (fun _ => 0))) := gg9
  replace gg10 : h[x + 133 + 186]? = some (.inl (.int, 16, .inl (fun _ => 0))) := gg10
  replace gg11 : h[x + 133 + 187]? = some (.inl (.int, 16, .inl (fun _ => 0))) := gg11
  replace gg12 : h[x + 133 + 188]? = some (.inl (.int, 16, .inl (fun _ => 0))) := gg12
  replace gg13 : h[x + 133 + 189]? = some (.inl (.int, 16, .inl (fun _ => 0))) := gg13
  replace gg14 : h[x + 133 + 190]? = some (.inl (.int, 16, .inl (fun _ => 0))) := gg14
  replace gg16 : h[x + 133 + 191]? = some (.inl (.int, 12000, .inl (fun _ => 0))) := gg16
  refine ab_of2 (lv := [some (.ref x), some (.int a), some (.int k)]) 0 rfl rfl (Nat.le_of_ble_eq_true rfl) ?_
  refine ab_iload_n d_W_row_0 rfl rfl ?_
  refine ab_if_lt (tgt := 15) d_W_row_1 (by decide) (fun q1 => ?_) (fun q1 => ?_)
  · refine ab_iconst (v := (-1)) d_W_row_15 (by decide) ?_
    exact ab_iret d_W_row_16 rfl (Nat.le_refl _) (Nat.le_refl _) (by unfold sq_W_row; rw [if_pos q1]; exact ⟨rfl, (ab_fr_rf _ _)⟩)
  · refine ab_iload_n d_W_row_4 rfl rfl ?_
    refine ab_aload_n d_W_row_5 rfl rfl rfl ?_
    refine ab_get (f := 4) d_W_row_6 gwo rfl (by decide) (k3 161 rfl rfl) rfl ?_
    refine ab_get (f := 7) d_W_row_9 ggo rfl (by decide) (k3 82 rfl rfl) rfl ?_
    refine ab_icmp_lt (tgt := 17) d_W_row_12 (by decide) (fun q2 => by exact absurd q2 (by first | assumption | exact Int32.not_lt.mpr (by assumption) | exact Int32.not_le.mpr (by assumption))) (fun q2 => ?_)
    refine ab_iconst (v := (-1)) d_W_row_15 (by decide) ?_
    exact ab_iret d_W_row_16 rfl (Nat.le_refl _) (Nat.le_refl _) (by unfold sq_W_row; rw [if_neg q1]; exact ⟨rfl, (ab_fr_rf _ _)⟩)
def sq_W_group (n : Int32) : Int32 := if n < (0 : Int32) then ((-1)) else ((-1))
set_option maxRecDepth 20000 in
set_option maxHeartbeats 2000000 in
theorem f_W_group {h : List ab_E}   {x : Nat} {w n : Int32}   (h0 : at_W0 h x w) : ab_M y_W_group { frames := 1, cells := 0, slots := 0, locals := 40 } [.ref x, .int n] h (ab_A (some (.int (sq_W_group n))) (fun h1 => ab_fr (in_lo x) h h1)) := by
  obtain ⟨hW, hL, hRd, hB, ⟨hP, hN, hBe, hWs, hTk, hRw⟩, hSt, ⟨hG, hG1, hGc, hG2, hG3, hGe, hG4, hG5⟩, ⟨hH, hH1, hHc, hH2, hH3, hHe, hH4, hH5⟩⟩ := h0
  have hW0 := hW; have gwo := hW
  replace gwo : h[x]? = some (.inr (0, [.ref (x + 1), .ref (x + 8), .ref (x + 11), .ref (x + 131), .ref (x + 133), .ref (x + 325), .int 0, .int (s0_W w 7), .int 0])) := gwo
  have hG0 := hG; obtain ⟨ggo, gg5, gg6, gg8, gg9, gg10, gg11, gg12, gg13, gg14, gg16⟩ := hG
  replace ggo : h[x + 133]? = some (.inr (4, [.ref (x + 133 + 1), .int 0, .ref (x + 133 + 70), .ref (x + 133 + 138), .int 0, .ref (x + 133 + 182), .ref (x + 133 + 183), .int 0, .ref (x + 133 + 184), .ref (x + 133 + 185), .ref (x + 133 + 186), .ref (x + 133 + 187), .ref (x + 133 + 188), .ref (x + 133 + 189), .ref (x + 133 + 190), .int 0, .ref (x + 133 + 191), .int 0])) := ggo
  replace gg5 : h[x + 133 + 182]? = some (.inl (.int, 16, .inl (fun _ => 0))) := gg5
  replace gg6 : h[x + 133 + 183]? = some (.inl (.int, 768, .inl (fun _ => 0))) := gg6
  replace gg8 : h[x + 133 + 184]? = some (.inl (.int, 16, .inl (fun _ => 0))) := gg8
  replace gg9 : h[x + 133 + 185]? = some (.inl (.int, 16, .inl (fun _ => 0))) := gg9
  replace gg10 : h[x + 133 + 186]? = some (.inl (.int, 16, .inl (fun _ => 0))) := gg10
  replace gg11 : h[x + 133 + 187]? = some (.inl (.int, 16, .inl (fun _ => 0))) := gg11
  replace gg12 : h[x + 133 + 188]? = some (.inl (.int, 16, .inl (fun _ => 0))) := gg12
  replace gg13 : h[x + 133 + 189]? = some (.inl (.int, 16, .inl (fun _ => 0))) := gg13
  replace gg14 : h[x + 133 + 190]? = some (.inl (.int, 16, .inl (fun _ => 0))) := gg14
  replace gg16 : h[x + 133 + 191]? = some (.inl (.int, 12000, .inl (fun _ => 0))) := gg16
  refine ab_of2 (lv := [some (.ref x), some (.int n)]) 0 rfl rfl (Nat.le_of_ble_eq_true rfl) ?_
  refine ab_iload_n d_W_group_0 rfl rfl ?_
  refine ab_if_lt (tgt := 15) d_W_group_1 (by decide) (fun q1 => ?_) (fun q1 => ?_)
  · refine ab_iconst (v := (-1)) d_W_group_15 (by decide) ?_
    exact ab_iret d_W_group_16 rfl (Nat.le_refl _) (Nat.le_refl _) (by unfold sq_W_group; rw [if_pos q1]; exact ⟨rfl, (ab_fr_rf _ _)⟩)
  · refine ab_iload_n d_W_group_4 rfl rfl ?_
    refine ab_aload_n d_W_group_5 rfl rfl rfl ?_
    refine ab_get (f := 4) d_W_group_6 gwo rfl (by decide) (k3 161 rfl rfl) rfl ?_
    refine ab_get (f := 7) d_W_group_9 ggo rfl (by decide) (k3 82 rfl rfl) rfl ?_
    refine ab_icmp_lt (tgt := 17) d_W_group_12 (by decide) (fun q2 => by exact absurd q2 (by first | assumption | exact Int32.not_lt.mpr (by assumption) | exact Int32.not_le.mpr (by assumption))) (fun q2 => ?_)
    refine ab_iconst (v := (-1)) d_W_group_15 (by decide) ?_
    exact ab_iret d_W_group_16 rfl (Nat.le_refl _) (Nat.le_refl _) (by unfold sq_W_group; rw [if_neg q1]; exact ⟨rfl, (ab_fr_rf _ _)⟩)
def sq_W_failure (n : Int32) : Int32 := ((-1))
set_option maxRecDepth 20000 in
set_option maxHeartbeats 2000000 in
theorem f_W_failure {h : List ab_E}    {x : Nat} {w n : Int32}    (h0 : at_W0 h x w) : ab_M y_W_failure { frames := 1, cells := 0, slots := 0, locals := 40 } [.ref x, .int n] h (ab_A (some (.int (sq_W_failure n))) (fun h1 => ab_fr (in_lo x) h h1)) := by
  obtain ⟨hW, hL, hRd, hB, ⟨hP, hN, hBe, hWs, hTk, hRw⟩, hSt, ⟨hG, hG1, hGc, hG2, hG3, hGe, hG4, hG5⟩, ⟨hH, hH1, hHc, hH2, hH3, hHe, hH4, hH5⟩⟩ := h0
  have hW0 := hW; have gwo := hW
  replace gwo : h[x]? = some (.inr (0, [.ref (x + 1), .ref (x + 8), .ref (x + 11), .ref (x + 131), .ref (x + 133), .ref (x + 325), .int 0, .int (s0_W w 7), .int 0])) := gwo
  have hP0 := hP; obtain ⟨gpo, gp4, gp8, gp9, gp10, gp11, gp12, gp13⟩ := hP
  replace gpo : h[x + 11]? = some (.inr (10, [.ref (x + 11 + 1), .int 0, .int 1, .int 0, .ref (x + 11 + 104), .int 0, .ref (x + 11 + 7), .ref (x + 11 + 105), .ref (x + 11 + 114), .ref (x + 11 + 115), .ref (x + 11 + 116), .ref (x + 11 + 117), .ref (x + 11 + 118), .ref (x + 11 + 119)])) := gpo
  replace gp4 : h[x + 11 + 104]? = some (.inl (.int, 256, .inl (fun _ => 0))) := gp4
  replace gp8 : h[x + 11 + 114]? = some (.inl (.boolean, 256, .inl (fun _ => 0))) := gp8
  replace gp9 : h[x + 11 + 115]? = some (.inl (.int, 256, .inl (fun _ => 0))) := gp9
  replace gp10 : h[x + 11 + 116]? = some (.inl (.int, 4, .inl (fun _ => 0))) := gp10
  replace gp11 : h[x + 11 + 117]? = some (.inl (.int, 16, .inl (fun _ => 0))) := gp11
  replace gp12 : h[x + 11 + 118]? = some (.inl (.int, 64, .inl (fun _ => 0))) := gp12
  replace gp13 : h[x + 11 + 119]? = some (.inl (.int, 4, .inl (fun _ => 0))) := gp13
  have hN0 := hN; obtain ⟨gno, gn7, gn8, gn11, gn12, gn14⟩ := hN
  replace gno : h[x + 11 + 1]? = some (.inr (7, [.int 0, .int 0, .int 0, .int 0, .int 0, .int 0, .int 0, .ref (x + 11 + 1 + 1), .ref (x + 11 + 1 + 2), .int 0, .int 0, .ref (x + 11 + 1 + 3), .ref (x + 11 + 1 + 4), .int 0, .ref (x + 11 + 1 + 5), .int 0])) := gno
  replace gn7 : h[x + 11 + 1 + 1]? = some (.inl (.int, 256, .inl (fun _ => 0))) := gn7
  replace gn8 : h[x + 11 + 1 + 2]? = some (.inl (.int, 256, .inl (a0_World 8))) := gn8
  replace gn11 : h[x + 11 + 1 + 3]? = some (.inl (.int, 12288, .inl (fun _ => 0))) := gn11
  replace gn12 : h[x + 11 + 1 + 4]? = some (.inl (.int, 1792, .inl (fun _ => 0))) := gn12
  replace gn14 : h[x + 11 + 1 + 5]? = some (.inl (.int, 32, .inl (fun _ => 0))) := gn14
  refine ab_of2 (lv := [some (.ref x), some (.int n), none]) 1 rfl rfl (Nat.le_of_ble_eq_true rfl) ?_
  refine ab_aload_n d_W_failure_0 rfl rfl rfl ?_
  refine ab_get (f := 2) d_W_failure_1 gwo rfl (by decide) (k3 159 rfl rfl) rfl ?_
  refine ab_get (f := 0) d_W_failure_4 gpo rfl (by decide) (k2 131 rfl rfl) rfl ?_
  refine ab_astore_n (lv' := [some (.ref x), some (.int n), some (.ref (x + 11 + 1))]) d_W_failure_7 rfl (by decide) rfl rfl ?_
  refine ab_aload_n d_W_failure_8 rfl rfl rfl ?_
  refine ab_get (f := 6) d_W_failure_9 gno rfl (by decide) (k1 226 rfl rfl) rfl ?_
  refine ab_if_ne (tgt := 17) d_W_failure_12 (by decide) (fun q1 => by exact absurd q1 (by decide)) (fun q1 => ?_)
  refine ab_iconst (v := (-1)) d_W_failure_15 (by decide) ?_
  exact ab_iret d_W_failure_16 rfl (Nat.le_refl _) (Nat.le_refl _) (by unfold sq_W_failure; exact ⟨rfl, (ab_fr_rf _ _)⟩)
def sq_W_pending (k : Int32) (n : Int32) : Int32 := if k < (0 : Int32) then ((-1)) else ((-1))
set_option maxRecDepth 20000 in
set_option maxHeartbeats 2000000 in
theorem f_W_pending {h : List ab_E}    {x : Nat} {w k n : Int32}    (h0 : at_W0 h x w) : ab_M y_W_pending { frames := 1, cells := 0, slots := 0, locals := 40 } [.ref x, .int k, .int n] h (ab_A (some (.int (sq_W_pending k n))) (fun h1 => ab_fr (in_lo x) h h1)) := by
  obtain ⟨hW, hL, hRd, hB, ⟨hP, hN, hBe, hWs, hTk, hRw⟩, hSt, ⟨hG, hG1, hGc, hG2, hG3, hGe, hG4, hG5⟩, ⟨hH, hH1, hHc, hH2, hH3, hHe, hH4, hH5⟩⟩ := h0
  have hW0 := hW; have gwo := hW
  replace gwo : h[x]? = some (.inr (0, [.ref (x + 1), .ref (x + 8), .ref (x + 11), .ref (x + 131), .ref (x + 133), .ref (x + 325), .int 0, .int (s0_W w 7), .int 0])) := gwo
  have hP0 := hP; obtain ⟨gpo, gp4, gp8, gp9, gp10, gp11, gp12, gp13⟩ := hP
  replace gpo : h[x + 11]? = some (.inr (10, [.ref (x + 11 + 1), .int 0, .int 1, .int 0, .ref (x + 11 + 104), .int 0, .ref (x + 11 + 7), .ref (x + 11 + 105), .ref (x + 11 + 114), .ref (x + 11 + 115), .ref (x + 11 + 116), .ref (x + 11 + 117), .ref (x + 11 + 118), .ref (x + 11 + 119)])) := gpo
  replace gp4 : h[x + 11 + 104]? = some (.inl (.int, 256, .inl (fun _ => 0))) := gp4
  replace gp8 : h[x + 11 + 114]? = some (.inl (.boolean, 256, .inl (fun _ => 0))) := gp8
  replace gp9 : h[x + 11 + 115]? = some (.inl (.int, 256, .inl (fun _ => 0))) := gp9
  replace gp10 : h[x + 11 + 116]? = some (.inl (.int, 4, .inl (fun _ => 0))) := gp10
  replace gp11 : h[x + 11 + 117]? = some (.inl (.int, 16, .inl (fun _ => 0))) := gp11
  replace gp12 : h[x + 11 + 118]? = some (.inl (.int, 64, .inl (fun _ => 0))) := gp12
  replace gp13 : h[x + 11 + 119]? = some (.inl (.int, 4, .inl (fun _ => 0))) := gp13
  have hN0 := hN; obtain ⟨gno, gn7, gn8, gn11, gn12, gn14⟩ := hN
  replace gno : h[x + 11 + 1]? = some (.inr (7, [.int 0, .int 0, .int 0, .int 0, .int 0, .int 0, .int 0, .ref (x + 11 + 1 + 1), .ref (x + 11 + 1 + 2), .int 0, .int 0, .ref (x + 11 + 1 + 3), .ref (x + 11 + 1 + 4), .int 0, .ref (x + 11 + 1 + 5), .int 0])) := gno
  replace gn7 : h[x + 11 + 1 + 1]? = some (.inl (.int, 256, .inl (fun _ => 0))) := gn7
  replace gn8 : h[x + 11 + 1 + 2]? = some (.inl (.int, 256, .inl (a0_World 8))) := gn8
  replace gn11 : h[x + 11 + 1 + 3]? = some (.inl (.int, 12288, .inl (fun _ => 0))) := gn11
  replace gn12 : h[x + 11 + 1 + 4]? = some (.inl (.int, 1792, .inl (fun _ => 0))) := gn12
  replace gn14 : h[x + 11 + 1 + 5]? = some (.inl (.int, 32, .inl (fun _ => 0))) := gn14
  refine ab_of2 (lv := [some (.ref x), some (.int k), some (.int n), none, none]) 2 rfl rfl (Nat.le_of_ble_eq_true rfl) ?_
  refine ab_aload_n d_W_pending_0 rfl rfl rfl ?_
  refine ab_get (f := 2) d_W_pending_1 gwo rfl (by decide) (k3 159 rfl rfl) rfl ?_
  refine ab_get (f := 0) d_W_pending_4 gpo rfl (by decide) (k2 131 rfl rfl) rfl ?_
  refine ab_astore_n (lv' := [some (.ref x), some (.int k), some (.int n), some (.ref (x + 11 + 1)), none]) d_W_pending_7 rfl (by decide) rfl rfl ?_
  refine ab_iload_n d_W_pending_8 rfl rfl ?_
  refine ab_if_lt (tgt := 30) d_W_pending_9 (by decide) (fun q1 => ?_) (fun q1 => ?_)
  · refine ab_iconst (v := (-1)) d_W_pending_30 (by decide) ?_
    exact ab_iret d_W_pending_31 rfl (Nat.le_refl _) (Nat.le_refl _) (by unfold sq_W_pending; rw [if_pos q1]; exact ⟨rfl, (ab_fr_rf _ _)⟩)
  · refine ab_iload_n d_W_pending_12 rfl rfl ?_
    refine ab_aload_n d_W_pending_13 rfl rfl rfl ?_
    refine ab_get (f := 13) d_W_pending_14 gno rfl (by decide) (k2 7 rfl rfl) rfl ?_
    refine ab_icmp_ge (tgt := 30) d_W_pending_17 (by decide) (fun q2 => ?_) (fun q2 => by exact absurd (by first | assumption | exact Int32.not_lt.mp (by assumption) | exact Int32.not_le.mp (by assumption)) q2)
    refine ab_iconst (v := (-1)) d_W_pending_30 (by decide) ?_
    exact ab_iret d_W_pending_31 rfl (Nat.le_refl _) (Nat.le_refl _) (by unfold sq_W_pending; rw [if_neg q1]; exact ⟨rfl, (ab_fr_rf _ _)⟩)
set_option maxRecDepth 20000 in
set_option maxHeartbeats 2000000 in
theorem f_W_pace {h : List ab_E}  {x : Nat} {w n : Int32}  (h0 : at_W0 h x w) : ab_M y_W_pace { frames := 1, cells := 0, slots := 0, locals := 40 } [.ref x, .int n] h (ab_A none (fun h1 => ab_fr (in_lo x) h h1)) := by
  obtain ⟨hW, hL, hRd, hB, ⟨hP, hN, hBe, hWs, hTk, hRw⟩, hSt, ⟨hG, hG1, hGc, hG2, hG3, hGe, hG4, hG5⟩, ⟨hH, hH1, hHc, hH2, hH3, hHe, hH4, hH5⟩⟩ := h0
  have hW0 := hW; have gwo := hW
  replace gwo : h[x]? = some (.inr (0, [.ref (x + 1), .ref (x + 8), .ref (x + 11), .ref (x + 131), .ref (x + 133), .ref (x + 325), .int 0, .int (s0_W w 7), .int 0])) := gwo
  refine ab_of2 (lv := [some (.ref x), some (.int n)]) 0 rfl rfl (Nat.le_of_ble_eq_true rfl) ?_
  exact ab_vret d_W_pace_0 rfl (Nat.le_refl _) (Nat.le_refl _) (by exact ⟨rfl, (ab_fr_rf _ _)⟩)
def sq_W_bend (k : Int32) (n : Int32) : Int32 := if k < (0 : Int32) then (0) else (0)
set_option maxRecDepth 20000 in
set_option maxHeartbeats 2000000 in
theorem f_W_bend {h : List ab_E}   {x : Nat} {w k n : Int32}   (h0 : at_W0 h x w) : ab_M y_W_bend { frames := 1, cells := 0, slots := 0, locals := 40 } [.ref x, .int k, .int n] h (ab_A (some (.int (sq_W_bend k n))) (fun h1 => ab_fr (in_lo x) h h1)) := by
  obtain ⟨hW, hL, hRd, hB, ⟨hP, hN, hBe, hWs, hTk, hRw⟩, hSt, ⟨hG, hG1, hGc, hG2, hG3, hGe, hG4, hG5⟩, ⟨hH, hH1, hHc, hH2, hH3, hHe, hH4, hH5⟩⟩ := h0
  have hW0 := hW; have gwo := hW
  replace gwo : h[x]? = some (.inr (0, [.ref (x + 1), .ref (x + 8), .ref (x + 11), .ref (x + 131), .ref (x + 133), .ref (x + 325), .int 0, .int (s0_W w 7), .int 0])) := gwo
  have hSt0 := hSt; obtain ⟨gsto, gst0⟩ := hSt
  replace gsto : h[x + 131]? = some (.inr (11, [.ref (x + 131 + 1), .int 0, .int 0, .int 0, .int 0, .int 0])) := gsto
  replace gst0 : h[x + 131 + 1]? = some (.inl (.byte, 60000, .inl (fun _ => 0))) := gst0
  refine ab_of2 (lv := [some (.ref x), some (.int k), some (.int n)]) 0 rfl rfl (Nat.le_of_ble_eq_true rfl) ?_
  refine ab_iload_n d_W_bend_0 rfl rfl ?_
  refine ab_if_lt (tgt := 15) d_W_bend_1 (by decide) (fun q1 => ?_) (fun q1 => ?_)
  · refine ab_iconst (v := 0) d_W_bend_15 (by decide) ?_
    exact ab_zret d_W_bend_16 rfl rfl (Nat.le_refl _) (Nat.le_refl _) (by unfold sq_W_bend; rw [if_pos q1]; exact ⟨rfl, (ab_fr_rf _ _)⟩)
  · refine ab_iload_n d_W_bend_4 rfl rfl ?_
    refine ab_aload_n d_W_bend_5 rfl rfl rfl ?_
    refine ab_get (f := 3) d_W_bend_6 gwo rfl (by decide) (k3 160 rfl rfl) rfl ?_
    refine ab_get (f := 1) d_W_bend_9 gsto rfl (by decide) (k2 189 rfl rfl) rfl ?_
    refine ab_icmp_lt (tgt := 17) d_W_bend_12 (by decide) (fun q2 => by exact absurd q2 (by first | assumption | exact Int32.not_lt.mpr (by assumption) | exact Int32.not_le.mpr (by assumption))) (fun q2 => ?_)
    refine ab_iconst (v := 0) d_W_bend_15 (by decide) ?_
    exact ab_zret d_W_bend_16 rfl rfl (Nat.le_refl _) (Nat.le_refl _) (by unfold sq_W_bend; rw [if_neg q1]; exact ⟨rfl, (ab_fr_rf _ _)⟩)
def sq_W_cut (n : Int32) : Int32 := if n < (0 : Int32) then (0) else if n ≤ (0 : Int32) then (1) else (0)
set_option maxRecDepth 20000 in
set_option maxHeartbeats 2000000 in
theorem f_W_cut {h : List ab_E}   {x : Nat} {w n : Int32}   (h0 : at_W0 h x w) : ab_M y_W_cut { frames := 1, cells := 0, slots := 0, locals := 40 } [.ref x, .int n] h (ab_A (some (.int (sq_W_cut n))) (fun h1 => ab_fr (in_lo x) h h1)) := by
  obtain ⟨hW, hL, hRd, hB, ⟨hP, hN, hBe, hWs, hTk, hRw⟩, hSt, ⟨hG, hG1, hGc, hG2, hG3, hGe, hG4, hG5⟩, ⟨hH, hH1, hHc, hH2, hH3, hHe, hH4, hH5⟩⟩ := h0
  have hW0 := hW; have gwo := hW
  replace gwo : h[x]? = some (.inr (0, [.ref (x + 1), .ref (x + 8), .ref (x + 11), .ref (x + 131), .ref (x + 133), .ref (x + 325), .int 0, .int (s0_W w 7), .int 0])) := gwo
  have hSt0 := hSt; obtain ⟨gsto, gst0⟩ := hSt
  replace gsto : h[x + 131]? = some (.inr (11, [.ref (x + 131 + 1), .int 0, .int 0, .int 0, .int 0, .int 0])) := gsto
  replace gst0 : h[x + 131 + 1]? = some (.inl (.byte, 60000, .inl (fun _ => 0))) := gst0
  refine ab_of2 (lv := [some (.ref x), some (.int n)]) 0 rfl rfl (Nat.le_of_ble_eq_true rfl) ?_
  refine ab_iload_n d_W_cut_0 rfl rfl ?_
  refine ab_if_lt (tgt := 15) d_W_cut_1 (by decide) (fun q1 => ?_) (fun q1 => ?_)
  · refine ab_iconst (v := 0) d_W_cut_15 (by decide) ?_
    exact ab_zret d_W_cut_16 rfl rfl (Nat.le_refl _) (Nat.le_refl _) (by unfold sq_W_cut; rw [if_pos q1]; exact ⟨rfl, (ab_fr_rf _ _)⟩)
  · refine ab_iload_n d_W_cut_4 rfl rfl ?_
    refine ab_aload_n d_W_cut_5 rfl rfl rfl ?_
    refine ab_get (f := 3) d_W_cut_6 gwo rfl (by decide) (k3 160 rfl rfl) rfl ?_
    refine ab_get (f := 1) d_W_cut_9 gsto rfl (by decide) (k2 189 rfl rfl) rfl ?_
    refine ab_icmp_le (tgt := 17) d_W_cut_12 (by decide) (fun q2 => ?_) (fun q2 => ?_)
    · refine ab_aload_n d_W_cut_17 rfl rfl rfl ?_
      refine ab_get (f := 3) d_W_cut_18 gwo rfl (by decide) (k3 160 rfl rfl) rfl ?_
      refine ab_iload_n d_W_cut_21 rfl rfl ?_
      refine ab_put (f := 1) d_W_cut_22 gsto rfl (by decide) (k2 189 rfl rfl) rfl rfl (fun _ => rfl) (fun _ => rfl) (Nat.le_of_ble_eq_true rfl) ?_
      show ab_V _ _ _ _ _ _ _ 25 [some (.ref x), some (.int n)] [] (h.set (x+131) (.inr (11, [.ref (x + 131 + 1), .int n, .int 0, .int 0, .int 0, .int 0])))
      refine ab_gen (fun h3 e4 => ?_)
      have c5 : h3[x]? = some (.inr (0, [.ref (x + 1), .ref (x + 8), .ref (x + 11), .ref (x + 131), .ref (x + 133), .ref (x + 325), .int 0, .int (s0_W w 7), .int 0])) := ab_other e4 (by omega) gwo
      have c6 : h3[x+131]? = some (.inr (11, [.ref (x + 131 + 1), .int n, .int 0, .int 0, .int 0, .int 0])) := ab_self e4 gsto
      have c7 : h3[x+131+1]? = some (.inl (.byte, 60000, .inl (fun _ => 0))) := ab_other e4 (by omega) gst0
      have fr8 : ab_fr (in_lo x) h h3 := ab_fr_set (ab_fr_rf _ _) e4 (by (show _ < _; omega))
      clear e4
      refine ab_iconst (v := 1) d_W_cut_25 (by decide) ?_
      exact ab_zret d_W_cut_26 rfl rfl (Nat.le_refl _) (Nat.le_refl _) (by unfold sq_W_cut; rw [if_neg q1]; rw [if_pos q2]; exact ⟨rfl, fr8⟩)
    · refine ab_iconst (v := 0) d_W_cut_15 (by decide) ?_
      exact ab_zret d_W_cut_16 rfl rfl (Nat.le_refl _) (Nat.le_refl _) (by unfold sq_W_cut; rw [if_neg q1]; rw [if_neg q2]; exact ⟨rfl, (ab_fr_rf _ _)⟩)
def sq_W_byteOut (n : Int32) : Int32 := if n < (0 : Int32) then ((-1)) else ((-1))
set_option maxRecDepth 20000 in
set_option maxHeartbeats 2000000 in
theorem f_W_byteOut {h : List ab_E}   {x : Nat} {w n : Int32}   (h0 : at_W0 h x w) : ab_M y_W_byteOut { frames := 1, cells := 0, slots := 0, locals := 40 } [.ref x, .int n] h (ab_A (some (.int (sq_W_byteOut n))) (fun h1 => ab_fr (in_lo x) h h1)) := by
  obtain ⟨hW, hL, hRd, hB, ⟨hP, hN, hBe, hWs, hTk, hRw⟩, hSt, ⟨hG, hG1, hGc, hG2, hG3, hGe, hG4, hG5⟩, ⟨hH, hH1, hHc, hH2, hH3, hHe, hH4, hH5⟩⟩ := h0
  have hW0 := hW; have gwo := hW
  replace gwo : h[x]? = some (.inr (0, [.ref (x + 1), .ref (x + 8), .ref (x + 11), .ref (x + 131), .ref (x + 133), .ref (x + 325), .int 0, .int (s0_W w 7), .int 0])) := gwo
  have hSt0 := hSt; obtain ⟨gsto, gst0⟩ := hSt
  replace gsto : h[x + 131]? = some (.inr (11, [.ref (x + 131 + 1), .int 0, .int 0, .int 0, .int 0, .int 0])) := gsto
  replace gst0 : h[x + 131 + 1]? = some (.inl (.byte, 60000, .inl (fun _ => 0))) := gst0
  refine ab_of2 (lv := [some (.ref x), some (.int n)]) 0 rfl rfl (Nat.le_of_ble_eq_true rfl) ?_
  refine ab_iload_n d_W_byteOut_0 rfl rfl ?_
  refine ab_if_lt (tgt := 15) d_W_byteOut_1 (by decide) (fun q1 => ?_) (fun q1 => ?_)
  · refine ab_iconst (v := (-1)) d_W_byteOut_15 (by decide) ?_
    exact ab_iret d_W_byteOut_16 rfl (Nat.le_refl _) (Nat.le_refl _) (by unfold sq_W_byteOut; rw [if_pos q1]; exact ⟨rfl, (ab_fr_rf _ _)⟩)
  · refine ab_iload_n d_W_byteOut_4 rfl rfl ?_
    refine ab_aload_n d_W_byteOut_5 rfl rfl rfl ?_
    refine ab_get (f := 3) d_W_byteOut_6 gwo rfl (by decide) (k3 160 rfl rfl) rfl ?_
    refine ab_get (f := 1) d_W_byteOut_9 gsto rfl (by decide) (k2 189 rfl rfl) rfl ?_
    refine ab_icmp_lt (tgt := 17) d_W_byteOut_12 (by decide) (fun q2 => by exact absurd q2 (by first | assumption | exact Int32.not_lt.mpr (by assumption) | exact Int32.not_le.mpr (by assumption))) (fun q2 => ?_)
    refine ab_iconst (v := (-1)) d_W_byteOut_15 (by decide) ?_
    exact ab_iret d_W_byteOut_16 rfl (Nat.le_refl _) (Nat.le_refl _) (by unfold sq_W_byteOut; rw [if_neg q1]; exact ⟨rfl, (ab_fr_rf _ _)⟩)
def sq_W_load  : Int32 := (-2000000)
set_option maxRecDepth 20000 in
set_option maxHeartbeats 2000000 in
theorem f_W_load {h : List ab_E}    {x : Nat} {w : Int32}    (h0 : at_W0 h x w) : ab_M y_W_load { frames := 1, cells := 0, slots := 0, locals := 40 } [.ref x] h (ab_A (some (.int (sq_W_load ))) (fun h1 => ab_fr (in_lo x) h h1)) := by
  obtain ⟨hW, hL, hRd, hB, ⟨hP, hN, hBe, hWs, hTk, hRw⟩, hSt, ⟨hG, hG1, hGc, hG2, hG3, hGe, hG4, hG5⟩, ⟨hH, hH1, hHc, hH2, hH3, hHe, hH4, hH5⟩⟩ := h0
  have hW0 := hW; have gwo := hW
  replace gwo : h[x]? = some (.inr (0, [.ref (x + 1), .ref (x + 8), .ref (x + 11), .ref (x + 131), .ref (x + 133), .ref (x + 325), .int 0, .int (s0_W w 7), .int 0])) := gwo
  have hP0 := hP; obtain ⟨gpo, gp4, gp8, gp9, gp10, gp11, gp12, gp13⟩ := hP
  replace gpo : h[x + 11]? = some (.inr (10, [.ref (x + 11 + 1), .int 0, .int 1, .int 0, .ref (x + 11 + 104), .int 0, .ref (x + 11 + 7), .ref (x + 11 + 105), .ref (x + 11 + 114), .ref (x + 11 + 115), .ref (x + 11 + 116), .ref (x + 11 + 117), .ref (x + 11 + 118), .ref (x + 11 + 119)])) := gpo
  replace gp4 : h[x + 11 + 104]? = some (.inl (.int, 256, .inl (fun _ => 0))) := gp4
  replace gp8 : h[x + 11 + 114]? = some (.inl (.boolean, 256, .inl (fun _ => 0))) := gp8
  replace gp9 : h[x + 11 + 115]? = some (.inl (.int, 256, .inl (fun _ => 0))) := gp9
  replace gp10 : h[x + 11 + 116]? = some (.inl (.int, 4, .inl (fun _ => 0))) := gp10
  replace gp11 : h[x + 11 + 117]? = some (.inl (.int, 16, .inl (fun _ => 0))) := gp11
  replace gp12 : h[x + 11 + 118]? = some (.inl (.int, 64, .inl (fun _ => 0))) := gp12
  replace gp13 : h[x + 11 + 119]? = some (.inl (.int, 4, .inl (fun _ => 0))) := gp13
  have hN0 := hN; obtain ⟨gno, gn7, gn8, gn11, gn12, gn14⟩ := hN
  replace gno : h[x + 11 + 1]? = some (.inr (7, [.int 0, .int 0, .int 0, .int 0, .int 0, .int 0, .int 0, .ref (x + 11 + 1 + 1), .ref (x + 11 + 1 + 2), .int 0, .int 0, .ref (x + 11 + 1 + 3), .ref (x + 11 + 1 + 4), .int 0, .ref (x + 11 + 1 + 5), .int 0])) := gno
  replace gn7 : h[x + 11 + 1 + 1]? = some (.inl (.int, 256, .inl (fun _ => 0))) := gn7
  replace gn8 : h[x + 11 + 1 + 2]? = some (.inl (.int, 256, .inl (a0_World 8))) := gn8
  replace gn11 : h[x + 11 + 1 + 3]? = some (.inl (.int, 12288, .inl (fun _ => 0))) := gn11
  replace gn12 : h[x + 11 + 1 + 4]? = some (.inl (.int, 1792, .inl (fun _ => 0))) := gn12
  replace gn14 : h[x + 11 + 1 + 5]? = some (.inl (.int, 32, .inl (fun _ => 0))) := gn14
  refine ab_of2 (lv := [some (.ref x), none]) 1 rfl rfl (Nat.le_of_ble_eq_true rfl) ?_
  refine ab_aload_n d_W_load_0 rfl rfl rfl ?_
  refine ab_get (f := 2) d_W_load_1 gwo rfl (by decide) (k3 159 rfl rfl) rfl ?_
  refine ab_callV_a (As := []) (rest := []) d_W_load_4 (r_Play_isQuiet gpo gno) (ab_mkC s_Play_isQuiet (Nat.le_of_ble_eq_true rfl) (Nat.le_of_ble_eq_true rfl) (by decide) (by decide)) (k6 95 rfl rfl) i_Play_isQuiet v_Play_isQuiet gpo rfl rfl (Nat.le_of_ble_eq_true rfl) (fun h2 q1 => ?_)
  subst q1
  refine ab_if_ne (tgt := 14) d_W_load_7 (by decide) (fun q3 => ?_) (fun q3 => by exact absurd q3 (by decide))
  refine ab_aload_n d_W_load_14 rfl rfl rfl ?_
  refine ab_get (f := 6) d_W_load_15 gwo rfl (by decide) (k3 163 rfl rfl) rfl ?_
  refine ab_if_ne (tgt := 25) d_W_load_18 (by decide) (fun q4 => by exact absurd q4 (by decide)) (fun q4 => ?_)
  refine ab_ldcw d_W_load_21 (k8 44 rfl rfl) ?_
  exact ab_iret d_W_load_24 rfl (Nat.le_refl _) (Nat.le_refl _) (by unfold sq_W_load; exact ⟨rfl, (ab_fr_rf _ _)⟩)
