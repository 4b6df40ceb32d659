set_option maxRecDepth 20000 in
set_option maxHeartbeats 2000000 in
theorem f_W_get {h : List ab_E}    {x : Nat} {w a b c : Int32}    (h0 : at_W0 h x w) : ab_M y_W_get { frames := 7, cells := 1, slots := 6, locals := 160 } [.ref x, .int a, .int b, .int c] h (fun o h1 => o = .threw h.length ∧ h1 = h ++ [.inr (18, [])]) := by
  obtain ⟨hW, hL, hRd, hB, ⟨hP, hN, hBe, hWs, hTk, hRw⟩, hSt, ⟨hG, hG1, hGc, hG2, hG3, hGe, hG4, hG5⟩, ⟨hH, hH1, hHc, hH2, hH3, hHe, hH4, hH5⟩⟩ := h0
  have hW0 := hW; have gwo := hW
  replace gwo : h[x]? = some (.inr (0, [.ref (x + 1), .ref (x + 8), .ref (x + 11), .ref (x + 131), .ref (x + 133), .ref (x + 325), .int 0, .int (s0_W w 7), .int 0])) := gwo
  have hP0 := hP; obtain ⟨gpo, gp4, gp8, gp9, gp10, gp11, gp12, gp13⟩ := hP
  replace gpo : h[x + 11]? = some (.inr (10, [.ref (x + 11 + 1), .int 0, .int 1, .int 0, .ref (x + 11 + 104), .int 0, .ref (x + 11 + 7), .ref (x + 11 + 105), .ref (x + 11 + 114), .ref (x + 11 + 115), .ref (x + 11 + 116), .ref (x + 11 + 117), .ref (x + 11 + 118), .ref (x + 11 + 119)])) := gpo
  replace gp4 : h[x + 11 + 104]? = some (.inl (.int, 256, .inl (fun _ => 0))) := gp4
  replace gp8 : h[x + 11 + 114]? = some (.inl (.boolean, 256, .inl (fun _ => 0))) := gp8
  replace gp9 : h[x + 11 + 115]? = some (.inl (.int, 256, .inl (fun _ => 0))) := gp9
  replace gp10 : h[x + 11 + 116]? = some (.inl (.int, 4, .inl (fun _ => 0))) := gp10
  replace gp11 : h[x + 11 + 117]? = some (.inl (.int, 16, .inl (fun _ => 0))) := gp11
  replace gp12 : h[x + 11 + 118]? = some (.inl (.int, 64, .inl (fun _ => 0))) := gp12
  replace gp13 : h[x + 11 + 119]? = some (.inl (.int, 4, .inl (fun _ => 0))) := gp13
  have hN0 := hN; obtain ⟨gno, gn7, gn8, gn11, gn12, gn14⟩ := hN
  replace gno : h[x + 11 + 1]? = some (.inr (7, [.int 0, .int 0, .int 0, .int 0, .int 0, .int 0, .int 0, .ref (x + 11 + 1 + 1), .ref (x + 11 + 1 + 2), .int 0, .int 0, .ref (x + 11 + 1 + 3), .ref (x + 11 + 1 + 4), .int 0, .ref (x + 11 + 1 + 5), .int 0])) := gno
  replace gn7 : h[x + 11 + 1 + 1]? = some (.inl (.int, 256, .inl (fun _ => 0))) := gn7
  replace gn8 : h[x + 11 + 1 + 2]? = some (.inl (.int, 256, .inl (a0_World 8))) := gn8
  replace gn11 : h[x + 11 + 1 + 3]? = some (.inl (.int, 12288, .inl (fun _ => 0))) := gn11
  replace gn12 : h[x + 11 + 1 + 4]? = some (.inl (.int, 1792, .inl (fun _ => 0))) := gn12
  replace gn14 : h[x + 11 + 1 + 5]? = some (.inl (.int, 32, .inl (fun _ => 0))) := gn14
  refine ab_of2 (lv := [some (.ref x), some (.int a), some (.int b), some (.int c), none]) 1 rfl rfl (Nat.le_of_ble_eq_true rfl) ?_
  refine ab_aload_n d_W_get_0 rfl rfl rfl ?_
  refine ab_iload_n d_W_get_1 rfl rfl ?_
  refine ab_iload_n d_W_get_2 rfl rfl ?_
  refine ab_iload_n d_W_get_3 rfl rfl ?_
  refine ab_callV_a (As := [.int a, .int b, .int c]) (rest := []) d_W_get_4 (r_W_offsetOf gwo gpo gno gn8) (ab_mkC s_W_offsetOf (Nat.le_of_ble_eq_true rfl) (Nat.le_of_ble_eq_true rfl) (by decide) (by decide)) (k7 186 rfl rfl) i_W_offsetOf v_W_offsetOf gwo rfl rfl (Nat.le_of_ble_eq_true rfl) (fun h2 q1 => ?_)
  subst q1
  refine ab_istore (lv' := [some (.ref x), some (.int a), some (.int b), some (.int c), some (.int (-1))]) d_W_get_7 (by decide) rfl ?_
  refine ab_iload d_W_get_9 rfl ?_
  refine ab_if_ge (tgt := 24) d_W_get_11 (by decide) (fun q3 => by exact absurd q3 (by decide)) (fun q3 => ?_)
  exact ab_throwN (ci := 18) (names := ["java/lang/Exception"]) (k0 := 8) d_W_get_14 d_W_get_17 d_W_get_18 d_W_get_20 d_W_get_23 rfl (k8 122 rfl rfl) (k8 123 rfl rfl) (k1 30 rfl rfl) (by decide +kernel) (by decide +kernel) (by decide +kernel) nse_0 nse_1 nse_2 nse_5 ow_NSE (List.mem_of_getElem? (i := 9) rfl) rfl rfl rfl rfl (by decide) (by decide) (by decide) (by decide) (by decide) (Nat.le_of_ble_eq_true rfl) ⟨rfl, rfl⟩
set_option maxRecDepth 20000 in
set_option maxHeartbeats 2000000 in
theorem f_W_shown {h : List ab_E}   {x : Nat} {w k : Int32}   (h0 : at_W0 h x w) : ab_M y_W_shown { frames := 7, cells := 1, slots := 6, locals := 160 } [.ref x, .int k] h (fun o h1 => o = .threw h.length ∧ h1 = h ++ [.inr (18, [])]) := by
  obtain ⟨hW, hL, hRd, hB, ⟨hP, hN, hBe, hWs, hTk, hRw⟩, hSt, ⟨hG, hG1, hGc, hG2, hG3, hGe, hG4, hG5⟩, ⟨hH, hH1, hHc, hH2, hH3, hHe, hH4, hH5⟩⟩ := h0
  have hW0 := hW; have gwo := hW
  replace gwo : h[x]? = some (.inr (0, [.ref (x + 1), .ref (x + 8), .ref (x + 11), .ref (x + 131), .ref (x + 133), .ref (x + 325), .int 0, .int (s0_W w 7), .int 0])) := gwo
  have hP0 := hP; obtain ⟨gpo, gp4, gp8, gp9, gp10, gp11, gp12, gp13⟩ := hP
  replace gpo : h[x + 11]? = some (.inr (10, [.ref (x + 11 + 1), .int 0, .int 1, .int 0, .ref (x + 11 + 104), .int 0, .ref (x + 11 + 7), .ref (x + 11 + 105), .ref (x + 11 + 114), .ref (x + 11 + 115), .ref (x + 11 + 116), .ref (x + 11 + 117), .ref (x + 11 + 118), .ref (x + 11 + 119)])) := gpo
  replace gp4 : h[x + 11 + 104]? = some (.inl (.int, 256, .inl (fun _ => 0))) := gp4
  replace gp8 : h[x + 11 + 114]? = some (.inl (.boolean, 256, .inl (fun _ => 0))) := gp8
  replace gp9 : h[x + 11 + 115]? = some (.inl (.int, 256, .inl (fun _ => 0))) := gp9
  replace gp10 : h[x + 11 + 116]? = some (.inl (.int, 4, .inl (fun _ => 0))) := gp10
  replace gp11 : h[x + 11 + 117]? = some (.inl (.int, 16, .inl (fun _ => 0))) := gp11
  replace gp12 : h[x + 11 + 118]? = some (.inl (.int, 64, .inl (fun _ => 0))) := gp12
  replace gp13 : h[x + 11 + 119]? = some (.inl (.int, 4, .inl (fun _ => 0))) := gp13
  refine ab_of2 (lv := [some (.ref x), some (.int k)]) 0 rfl rfl (Nat.le_of_ble_eq_true rfl) ?_
  refine ab_iload_n d_W_shown_0 rfl rfl ?_
  refine ab_if_lt (tgt := 21) d_W_shown_1 (by decide) (fun q1 => ?_) (fun q1 => ?_)
  · exact ab_throwN (ci := 18) (names := ["java/lang/Exception"]) (k0 := 9) d_W_shown_21 d_W_shown_24 d_W_shown_25 d_W_shown_27 d_W_shown_30 rfl (k8 122 rfl rfl) (k8 123 rfl rfl) (k1 30 rfl rfl) (by decide +kernel) (by decide +kernel) (by decide +kernel) nse_0 nse_1 nse_2 nse_5 ow_NSE (List.mem_of_getElem? (i := 10) rfl) rfl rfl rfl rfl (by decide) (by decide) (by decide) (by decide) (by decide) (Nat.le_of_ble_eq_true rfl) ⟨rfl, rfl⟩
  · refine ab_iload_n d_W_shown_4 rfl rfl ?_
    refine ab_aload_n d_W_shown_5 rfl rfl rfl ?_
    refine ab_get (f := 2) d_W_shown_6 gwo rfl (by decide) (k3 159 rfl rfl) rfl ?_
    refine ab_get (f := 5) d_W_shown_9 gpo rfl (by decide) (k2 141 rfl rfl) rfl ?_
    refine ab_sipush (v := 256) d_W_shown_12 (by decide) ?_
    refine ab_callS_a (As := [.int 0, .int 256]) (rest := [.int k]) d_W_shown_15 (c_Math_min) (ab_mkC s_Math_min (Nat.le_of_ble_eq_true rfl) (Nat.le_of_ble_eq_true rfl) (by decide) (by decide)) (k3 153 rfl rfl) t_Math_min rfl (Nat.le_of_ble_eq_true rfl) (fun h3 q2 => ?_)
    subst q2
    refine ab_topi (fun x4 ex4 => ?_)
    obtain rfl : x4 = 0 := ex4.trans (by decide)
    clear ex4
    refine ab_icmp_lt (tgt := 31) d_W_shown_18 (by decide) (fun q5 => by exact absurd q5 (by first | assumption | exact Int32.not_lt.mpr (by assumption) | exact Int32.not_le.mpr (by assumption))) (fun q5 => ?_)
    exact ab_throwN (ci := 18) (names := ["java/lang/Exception"]) (k0 := 9) d_W_shown_21 d_W_shown_24 d_W_shown_25 d_W_shown_27 d_W_shown_30 rfl (k8 122 rfl rfl) (k8 123 rfl rfl) (k1 30 rfl rfl) (by decide +kernel) (by decide +kernel) (by decide +kernel) nse_0 nse_1 nse_2 nse_5 ow_NSE (List.mem_of_getElem? (i := 10) rfl) rfl rfl rfl rfl (by decide) (by decide) (by decide) (by decide) (by decide) (Nat.le_of_ble_eq_true rfl) ⟨rfl, rfl⟩
