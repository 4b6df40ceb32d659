def y_Law_cell : ab_Y := (⟨"WorldEngineLaw", "cell", "([II)I"⟩, method_2_code, 2, (some FieldType.int), [])
theorem d_Law_cell_0 : decode y_Law_cell.2.1 0 = .ok (.iload_n 1, 1) := by decide +kernel
theorem d_Law_cell_1 : decode y_Law_cell.2.1 1 = .ok (.aload_n 0, 1) := by decide +kernel
theorem d_Law_cell_2 : decode y_Law_cell.2.1 2 = .ok (.arraylength, 1) := by decide +kernel
theorem d_Law_cell_3 : decode y_Law_cell.2.1 3 = .ok (.if_icmp .ge 9, 3) := by decide +kernel
theorem d_Law_cell_6 : decode y_Law_cell.2.1 6 = .ok (.aload_n 0, 1) := by decide +kernel
theorem d_Law_cell_7 : decode y_Law_cell.2.1 7 = .ok (.iload_n 1, 1) := by decide +kernel
theorem d_Law_cell_8 : decode y_Law_cell.2.1 8 = .ok (.iaload, 1) := by decide +kernel
theorem d_Law_cell_9 : decode y_Law_cell.2.1 9 = .ok (.goto 4, 3) := by decide +kernel
theorem d_Law_cell_12 : decode y_Law_cell.2.1 12 = .ok (.iconst 0, 1) := by decide +kernel
theorem d_Law_cell_13 : decode y_Law_cell.2.1 13 = .ok (.ireturn, 1) := by decide +kernel
def y_Law_get : ab_Y := (⟨"WorldEngineLaw", "get", "(LWorldEngine;III[J)I"⟩, method_3_code, 6, (some FieldType.int), [(0, 12, 15, 13)])
theorem d_Law_get_0 : decode y_Law_get.2.1 0 = .ok (.aload 4, 2) := by decide +kernel
theorem d_Law_get_2 : decode y_Law_get.2.1 2 = .ok (.iconst 0, 1) := by decide +kernel
theorem d_Law_get_3 : decode y_Law_get.2.1 3 = .ok (.aload_n 0, 1) := by decide +kernel
theorem d_Law_get_4 : decode y_Law_get.2.1 4 = .ok (.iload_n 1, 1) := by decide +kernel
theorem d_Law_get_5 : decode y_Law_get.2.1 5 = .ok (.iload_n 2, 1) := by decide +kernel
theorem d_Law_get_6 : decode y_Law_get.2.1 6 = .ok (.iload_n 3, 1) := by decide +kernel
theorem d_Law_get_7 : decode y_Law_get.2.1 7 = .ok (.invokevirtual 7, 3) := by decide +kernel
theorem d_Law_get_10 : decode y_Law_get.2.1 10 = .ok (.i2l, 1) := by decide +kernel
theorem d_Law_get_11 : decode y_Law_get.2.1 11 = .ok (.lastore, 1) := by decide +kernel
theorem d_Law_get_12 : decode y_Law_get.2.1 12 = .ok (.goto 7, 3) := by decide +kernel
theorem d_Law_get_15 : decode y_Law_get.2.1 15 = .ok (.astore 5, 2) := by decide +kernel
theorem d_Law_get_17 : decode y_Law_get.2.1 17 = .ok (.iconst 1, 1) := by decide +kernel
theorem d_Law_get_18 : decode y_Law_get.2.1 18 = .ok (.ireturn, 1) := by decide +kernel
theorem d_Law_get_19 : decode y_Law_get.2.1 19 = .ok (.iconst 0, 1) := by decide +kernel
theorem d_Law_get_20 : decode y_Law_get.2.1 20 = .ok (.ireturn, 1) := by decide +kernel
def y_Law_shown : ab_Y := (⟨"WorldEngineLaw", "shown", "(LWorldEngine;I[J)I"⟩, method_4_code, 4, (some FieldType.int), [(0, 9, 12, 13)])
theorem d_Law_shown_0 : decode y_Law_shown.2.1 0 = .ok (.aload_n 2, 1) := by decide +kernel
theorem d_Law_shown_1 : decode y_Law_shown.2.1 1 = .ok (.iconst 0, 1) := by decide +kernel
theorem d_Law_shown_2 : decode y_Law_shown.2.1 2 = .ok (.aload_n 0, 1) := by decide +kernel
theorem d_Law_shown_3 : decode y_Law_shown.2.1 3 = .ok (.iload_n 1, 1) := by decide +kernel
theorem d_Law_shown_4 : decode y_Law_shown.2.1 4 = .ok (.invokevirtual 15, 3) := by decide +kernel
theorem d_Law_shown_7 : decode y_Law_shown.2.1 7 = .ok (.i2l, 1) := by decide +kernel
theorem d_Law_shown_8 : decode y_Law_shown.2.1 8 = .ok (.lastore, 1) := by decide +kernel
theorem d_Law_shown_9 : decode y_Law_shown.2.1 9 = .ok (.goto 6, 3) := by decide +kernel
theorem d_Law_shown_12 : decode y_Law_shown.2.1 12 = .ok (.astore_n 3, 1) := by decide +kernel
theorem d_Law_shown_13 : decode y_Law_shown.2.1 13 = .ok (.iconst 1, 1) := by decide +kernel
theorem d_Law_shown_14 : decode y_Law_shown.2.1 14 = .ok (.ireturn, 1) := by decide +kernel
theorem d_Law_shown_15 : decode y_Law_shown.2.1 15 = .ok (.iconst 0, 1) := by decide +kernel
theorem d_Law_shown_16 : decode y_Law_shown.2.1 16 = .ok (.ireturn, 1) := by decide +kernel
theorem s_Law_cell : ab_Stat y_Law_cell 2 := ⟨(k8 113 rfl rfl), (k1 0 rfl rfl), ⟨by decide, by decide⟩, by decide +kernel⟩
theorem t_Law_cell : Cond.static y_Law_cell.1 ∈ ab_T := (k8 112 rfl rfl)
theorem s_Law_get : ab_Stat y_Law_get 5 := ⟨(k8 116 rfl rfl), (k1 0 rfl rfl), ⟨by decide, by decide⟩, by decide +kernel⟩
theorem t_Law_get : Cond.static y_Law_get.1 ∈ ab_T := (k8 115 rfl rfl)
theorem s_Law_shown : ab_Stat y_Law_shown 3 := ⟨(k8 141 rfl rfl), (k1 0 rfl rfl), ⟨by decide, by decide⟩, by decide +kernel⟩
theorem t_Law_shown : Cond.static y_Law_shown.1 ∈ ab_T := (k8 140 rfl rfl)
set_option maxRecDepth 20000 in
set_option maxHeartbeats 2000000 in
theorem f_Law_get {h : List ab_E}  {x j : Nat} {w a b c : Int32}  (h0 : at_W0 h x w) : ab_M y_Law_get { frames := 8, cells := 1, slots := 6, locals := 240 } [.ref x, .int a, .int b, .int c, .ref j] h (ab_A (some (.int 1)) (fun h1 => h1 = h ++ [.inr (18, [])])) := by
  have h00 := h0; obtain ⟨hW, hL, hRd, hB, ⟨hP, hN, hBe, hWs, hTk, hRw⟩, hSt, ⟨hG, hG1, hGc, hG2, hG3, hGe, hG4, hG5⟩, ⟨hH, hH1, hHc, hH2, hH3, hHe, hH4, hH5⟩⟩ := h0
  have hW0 := hW; have gwo := hW
  replace gwo : h[x]? = some (.inr (0, [.ref (x + 1), .ref (x + 8), .ref (x + 11), .ref (x + 131), .ref (x + 133), .ref (x + 325), .int 0, .int (s0_W w 7), .int 0])) := gwo
  refine ab_of2 (lv := [some (.ref x), some (.int a), some (.int b), some (.int c), some (.ref j), none]) 1 rfl rfl (Nat.le_of_ble_eq_true rfl) ?_
  refine ab_aload d_Law_get_0 rfl rfl ?_
  refine ab_iconst (v := 0) d_Law_get_2 (by decide) ?_
  refine ab_aload_n d_Law_get_3 rfl rfl rfl ?_
  refine ab_iload_n d_Law_get_4 rfl rfl ?_
  refine ab_iload_n d_Law_get_5 rfl rfl ?_
  refine ab_iload_n d_Law_get_6 rfl rfl ?_
  refine ab_callV (As := [.int a, .int b, .int c]) (rest := [.int 0, .ref j]) d_Law_get_7 (f_W_get h00) (ab_mkC s_W_get (Nat.le_of_ble_eq_true rfl) (Nat.le_of_ble_eq_true rfl) (by decide) (by decide)) (k8 118 rfl rfl) i_W_get v_W_get gwo rfl rfl (Nat.le_of_ble_eq_true rfl) (fun v h1 hz => nomatch hz.1) (fun xx h1 hz => ?_)
  obtain ⟨e1, e2⟩ := hz
  subst e2
  cases e1
  refine ab_U_catch (ci := 18) rfl (by decide) (by decide) (k8 117 rfl rfl) (ab_app (c := .inr (18, [])) rfl).2.1 rfl ?_
  refine ab_astore (lv' := [some (.ref x), some (.int a), some (.int b), some (.int c), some (.ref j), some (.ref h.length)]) d_Law_get_15 (by decide) rfl rfl ?_
  refine ab_iconst (v := 1) d_Law_get_17 (by decide) ?_
  exact ab_iret d_Law_get_18 rfl (by decide) (by decide) ⟨rfl, rfl⟩
set_option maxRecDepth 20000 in
set_option maxHeartbeats 2000000 in
theorem f_Law_shown {h : List ab_E}  {x j : Nat} {w k : Int32}  (h0 : at_W0 h x w) : ab_M y_Law_shown { frames := 8, cells := 1, slots := 6, locals := 240 } [.ref x, .int k, .ref j] h (ab_A (some (.int 1)) (fun h1 => h1 = h ++ [.inr (18, [])])) := by
  have h00 := h0; obtain ⟨hW, hL, hRd, hB, ⟨hP, hN, hBe, hWs, hTk, hRw⟩, hSt, ⟨hG, hG1, hGc, hG2, hG3, hGe, hG4, hG5⟩, ⟨hH, hH1, hHc, hH2, hH3, hHe, hH4, hH5⟩⟩ := h0
  have hW0 := hW; have gwo := hW
  replace gwo : h[x]? = some (.inr (0, [.ref (x + 1), .ref (x + 8), .ref (x + 11), .ref (x + 131), .ref (x + 133), .ref (x + 325), .int 0, .int (s0_W w 7), .int 0])) := gwo
  refine ab_of2 (lv := [some (.ref x), some (.int k), some (.ref j), none]) 1 rfl rfl (Nat.le_of_ble_eq_true rfl) ?_
  refine ab_aload_n d_Law_shown_0 rfl rfl rfl ?_
  refine ab_iconst (v := 0) d_Law_shown_1 (by decide) ?_
  refine ab_aload_n d_Law_shown_2 rfl rfl rfl ?_
  refine ab_iload_n d_Law_shown_3 rfl rfl ?_
  refine ab_callV (As := [.int k]) (rest := [.int 0, .ref j]) d_Law_shown_4 (f_W_shown h00) (ab_mkC s_W_shown (Nat.le_of_ble_eq_true rfl) (Nat.le_of_ble_eq_true rfl) (by decide) (by decide)) (k8 142 rfl rfl) i_W_shown v_W_shown gwo rfl rfl (Nat.le_of_ble_eq_true rfl) (fun v h1 hz => nomatch hz.1) (fun xx h1 hz => ?_)
  obtain ⟨e1, e2⟩ := hz
  subst e2
  cases e1
  refine ab_U_catch (ci := 18) rfl (by decide) (by decide) (k8 117 rfl rfl) (ab_app (c := .inr (18, [])) rfl).2.1 rfl ?_
  refine ab_astore_n (lv' := [some (.ref x), some (.int k), some (.ref j), some (.ref h.length)]) d_Law_shown_12 rfl (by decide) rfl rfl ?_
  refine ab_iconst (v := 1) d_Law_shown_13 (by decide) ?_
  exact ab_iret d_Law_shown_14 rfl (by decide) (by decide) ⟨rfl, rfl⟩
