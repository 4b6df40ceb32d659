set_option maxRecDepth 20000 in
set_option maxHeartbeats 2000000 in
theorem r_sclear_17 {h : List ab_E}  {p0 p1 : Value} {qf : Nat → Int32} {c fz : Nat}  (po : h[c]? = some (.inr (3, [p0, p1, .ref fz, .int 0]))) (qa : h[fz]? = some (.inl (.int, 17, .inl qf))) (hcf : fz ≠ c) : ab_M y_Shapes_clear { frames := 0, cells := 0, slots := 0, locals := 0 } [.ref c] h (ab_A none (fun h1 => ∃ y : Nat → Int32, h1[c]? = some (.inr (3, [p0, p1, .ref fz, .int 0])) ∧ h1[fz]? = some (.inl (.int, 17, .inl y)) ∧ ab_fr (fun j => j = c ∨ j = fz) h h1)) := by
  refine ab_of2 (lv := [some (.ref c)]) 0 rfl rfl (Nat.le_of_ble_eq_true rfl) ?_
  refine ab_aload_n d_Shapes_clear_0 rfl rfl rfl ?_
  refine ab_iconst (v := 0) d_Shapes_clear_1 (by decide) ?_
  refine ab_put (f := 3) d_Shapes_clear_2 po rfl (by decide) (k3 39 rfl rfl) rfl rfl (fun _ => rfl) (fun _ => rfl) (Nat.le_of_ble_eq_true rfl) ?_
  show ab_V _ _ _ _ _ _ _ 5 [some (.ref c)] [] (h.set c (.inr (3, [p0, p1, .ref fz, .int 0])))
  refine ab_gen (fun h1 e2 => ?_)
  have c3 : h1[c]? = some (.inr (3, [p0, p1, .ref fz, .int 0])) := ab_self e2 po
  have c4 : h1[fz]? = some (.inl (.int, 17, .inl qf)) := ab_other e2 (by omega) qa
  have fr5 : ab_fr (fun j => j = c ∨ j = fz) h h1 := ab_fr_set (ab_fr_rf _ _) e2 (by first | (show _ ∧ _; omega) | (show _ ∨ _; omega) | (show _ = _; omega) | (show _ ≤ _; omega))
  clear e2
  refine ab_aload_n d_Shapes_clear_5 rfl rfl rfl ?_
  refine ab_get (f := 2) d_Shapes_clear_6 c3 rfl (by decide) (k3 32 rfl rfl) rfl ?_
  refine ab_iconst (v := 0) d_Shapes_clear_9 (by decide) ?_
  refine ab_iconst (v := 0) d_Shapes_clear_10 (by decide) ?_
  refine ab_iast d_Shapes_clear_11 tI c4 (in_of (by decide) (by decide) (by decide)) ?_
  refine ab_gen (fun h6 e7 => ?_)
  have c8 : h6[c]? = some (.inr (3, [p0, p1, .ref fz, .int 0])) := ab_other e7 (by omega) c3
  have c9 : h6[fz]? = some (.inl (.int, 17, .inl (upd qf (0 : Int32).toNatClampNeg 0))) := ab_self e7 c4
  have fr10 : ab_fr (fun j => j = c ∨ j = fz) h h6 := ab_fr_set fr5 e7 (by first | (show _ ∧ _; omega) | (show _ ∨ _; omega) | (show _ = _; omega) | (show _ ≤ _; omega))
  clear c3 c4 fr5 e7
  try clear h1
  obtain ⟨y11, c12⟩ : ∃ f : Nat → Int32, h6[fz]? = some (.inl (.int, 17, .inl f)) := ⟨_, c9⟩
  clear c9
  exact ab_vret d_Shapes_clear_12 rfl (Nat.le_refl _) (Nat.le_refl _) (by exact ⟨rfl, _, c8, c12, fr10⟩)
set_option maxRecDepth 20000 in
set_option maxHeartbeats 2000000 in
theorem r_sclear_9 {h : List ab_E}  {p0 p1 : Value} {qf : Nat → Int32} {c fz : Nat}  (po : h[c]? = some (.inr (3, [p0, p1, .ref fz, .int 0]))) (qa : h[fz]? = some (.inl (.int, 9, .inl qf))) (hcf : fz ≠ c) : ab_M y_Shapes_clear { frames := 0, cells := 0, slots := 0, locals := 0 } [.ref c] h (ab_A none (fun h1 => ∃ y : Nat → Int32, h1[c]? = some (.inr (3, [p0, p1, .ref fz, .int 0])) ∧ h1[fz]? = some (.inl (.int, 9, .inl y)) ∧ ab_fr (fun j => j = c ∨ j = fz) h h1)) := by
  refine ab_of2 (lv := [some (.ref c)]) 0 rfl rfl (Nat.le_of_ble_eq_true rfl) ?_
  refine ab_aload_n d_Shapes_clear_0 rfl rfl rfl ?_
  refine ab_iconst (v := 0) d_Shapes_clear_1 (by decide) ?_
  refine ab_put (f := 3) d_Shapes_clear_2 po rfl (by decide) (k3 39 rfl rfl) rfl rfl (fun _ => rfl) (fun _ => rfl) (Nat.le_of_ble_eq_true rfl) ?_
  show ab_V _ _ _ _ _ _ _ 5 [some (.ref c)] [] (h.set c (.inr (3, [p0, p1, .ref fz, .int 0])))
  refine ab_gen (fun h1 e2 => ?_)
  have c3 : h1[c]? = some (.inr (3, [p0, p1, .ref fz, .int 0])) := ab_self e2 po
  have c4 : h1[fz]? = some (.inl (.int, 9, .inl qf)) := ab_other e2 (by omega) qa
  have fr5 : ab_fr (fun j => j = c ∨ j = fz) h h1 := ab_fr_set (ab_fr_rf _ _) e2 (by first | (show _ ∧ _; omega) | (show _ ∨ _; omega) | (show _ = _; omega) | (show _ ≤ _; omega))
  clear e2
  refine ab_aload_n d_Shapes_clear_5 rfl rfl rfl ?_
  refine ab_get (f := 2) d_Shapes_clear_6 c3 rfl (by decide) (k3 32 rfl rfl) rfl ?_
  refine ab_iconst (v := 0) d_Shapes_clear_9 (by decide) ?_
  refine ab_iconst (v := 0) d_Shapes_clear_10 (by decide) ?_
  refine ab_iast d_Shapes_clear_11 tI c4 (in_of (by decide) (by decide) (by decide)) ?_
  refine ab_gen (fun h6 e7 => ?_)
  have c8 : h6[c]? = some (.inr (3, [p0, p1, .ref fz, .int 0])) := ab_other e7 (by omega) c3
  have c9 : h6[fz]? = some (.inl (.int, 9, .inl (upd qf (0 : Int32).toNatClampNeg 0))) := ab_self e7 c4
  have fr10 : ab_fr (fun j => j = c ∨ j = fz) h h6 := ab_fr_set fr5 e7 (by first | (show _ ∧ _; omega) | (show _ ∨ _; omega) | (show _ = _; omega) | (show _ ≤ _; omega))
  clear c3 c4 fr5 e7
  try clear h1
  obtain ⟨y11, c12⟩ : ∃ f : Nat → Int32, h6[fz]? = some (.inl (.int, 9, .inl f)) := ⟨_, c9⟩
  clear c9
  exact ab_vret d_Shapes_clear_12 rfl (Nat.le_refl _) (Nat.le_refl _) (by exact ⟨rfl, _, c8, c12, fr10⟩)
set_option maxRecDepth 20000 in
set_option maxHeartbeats 2000000 in
theorem r_Program_clear {h : List ab_E}  {yf : Nat → Int32} {zf : Nat → Int32} {x : Nat}  (go : h[x + 325]? = some (.inr (4, [.ref (x + 325 + 1), .int 0, .ref (x + 325 + 70), .ref (x + 325 + 138), .int 0, .ref (x + 325 + 182), .ref (x + 325 + 183), .int 0, .ref (x + 325 + 184), .ref (x + 325 + 185), .ref (x + 325 + 186), .ref (x + 325 + 187), .ref (x + 325 + 188), .ref (x + 325 + 189), .ref (x + 325 + 190), .int 0, .ref (x + 325 + 191), .int 0]))) (co : h[x + 325 + 70]? = some (.inr (3, [.ref (x + 325 + 70 + 1), .ref (x + 325 + 70 + 18), .ref (x + 325 + 70 + 67), .int 0]))) (eo : h[x + 325 + 138]? = some (.inr (3, [.ref (x + 325 + 138 + 1), .ref (x + 325 + 138 + 10), .ref (x + 325 + 138 + 43), .int 0]))) (ya : h[x + 325 + 70 + 67]? = some (.inl (.int, 17, .inl yf))) (za : h[x + 325 + 138 + 43]? = some (.inl (.int, 9, .inl zf)))  : ab_M y_Program_clear { frames := 1, cells := 0, slots := 0, locals := 40 } [.ref (x + 325)] h (ab_A none (fun h1 => ∃ (y1 z1 : Nat → Int32), h1[x + 325]? = some (.inr (4, [.ref (x + 325 + 1), .int 0, .ref (x + 325 + 70), .ref (x + 325 + 138), .int 0, .ref (x + 325 + 182), .ref (x + 325 + 183), .int 0, .ref (x + 325 + 184), .ref (x + 325 + 185), .ref (x + 325 + 186), .ref (x + 325 + 187), .ref (x + 325 + 188), .ref (x + 325 + 189), .ref (x + 325 + 190), .int 0, .ref (x + 325 + 191), .int 0])) ∧ h1[x + 325 + 70]? = some (.inr (3, [.ref (x + 325 + 70 + 1), .ref (x + 325 + 70 + 18), .ref (x + 325 + 70 + 67), .int 0])) ∧ h1[x + 325 + 138]? = some (.inr (3, [.ref (x + 325 + 138 + 1), .ref (x + 325 + 138 + 10), .ref (x + 325 + 138 + 43), .int 0])) ∧ h1[x + 325 + 70 + 67]? = some (.inl (.int, 17, .inl y1)) ∧ h1[x + 325 + 138 + 43]? = some (.inl (.int, 9, .inl z1)) ∧ ab_fr (fun j => j = x + 325 ∨ j = x + 325 + 70 ∨ j = x + 325 + 138 ∨ j = x + 325 + 70 + 67 ∨ j = x + 325 + 138 + 43) h h1)) := by
  refine ab_of2 (lv := [some (.ref (x + 325))]) 0 rfl rfl (Nat.le_of_ble_eq_true rfl) ?_
  refine ab_aload_n d_Program_clear_0 rfl rfl rfl ?_
  refine ab_iconst (v := 0) d_Program_clear_1 (by decide) ?_
  refine ab_put (f := 1) d_Program_clear_2 go rfl (by decide) (k3 54 rfl rfl) rfl rfl (fun _ => rfl) (fun _ => rfl) (Nat.le_of_ble_eq_true rfl) ?_
  show ab_V _ _ _ _ _ _ _ 5 [some (.ref (x + 325))] [] (h.set (x+325) (.inr (4, [.ref (x + 325 + 1), .int 0, .ref (x + 325 + 70), .ref (x + 325 + 138), .int 0, .ref (x + 325 + 182), .ref (x + 325 + 183), .int 0, .ref (x + 325 + 184), .ref (x + 325 + 185), .ref (x + 325 + 186), .ref (x + 325 + 187), .ref (x + 325 + 188), .ref (x + 325 + 189), .ref (x + 325 + 190), .int 0, .ref (x + 325 + 191), .int 0])))
  refine ab_gen (fun h1 e2 => ?_)
  have c3 : h1[x+325]? = some (.inr (4, [.ref (x + 325 + 1), .int 0, .ref (x + 325 + 70), .ref (x + 325 + 138), .int 0, .ref (x + 325 + 182), .ref (x + 325 + 183), .int 0, .ref (x + 325 + 184), .ref (x + 325 + 185), .ref (x + 325 + 186), .ref (x + 325 + 187), .ref (x + 325 + 188), .ref (x + 325 + 189), .ref (x + 325 + 190), .int 0, .ref (x + 325 + 191), .int 0])) := ab_self e2 go
  have c4 : h1[x+325+70]? = some (.inr (3, [.ref (x + 325 + 70 + 1), .ref (x + 325 + 70 + 18), .ref (x + 325 + 70 + 67), .int 0])) := ab_other e2 (by omega) co
  have c5 : h1[x+325+138]? = some (.inr (3, [.ref (x + 325 + 138 + 1), .ref (x + 325 + 138 + 10), .ref (x + 325 + 138 + 43), .int 0])) := ab_other e2 (by omega) eo
  have c6 : h1[x+325+70+67]? = some (.inl (.int, 17, .inl yf)) := ab_other e2 (by omega) ya
  have c7 : h1[x+325+138+43]? = some (.inl (.int, 9, .inl zf)) := ab_other e2 (by omega) za
  have fr8 : ab_fr (fun j => j = x + 325 ∨ j = x + 325 + 70 ∨ j = x + 325 + 138 ∨ j = x + 325 + 70 + 67 ∨ j = x + 325 + 138 + 43) h h1 := ab_fr_set (ab_fr_rf _ _) e2 (by first | (show _ ∧ _; omega) | (show _ ∨ _; omega) | (show _ = _; omega) | (show _ ≤ _; omega))
  clear e2
  refine ab_aload_n d_Program_clear_5 rfl rfl rfl ?_
  refine ab_get (f := 2) d_Program_clear_6 c3 rfl (by decide) (k3 55 rfl rfl) rfl ?_
  refine ab_callV_v (As := []) (rest := []) d_Program_clear_9 (r_sclear_17 c4 c6 (by omega)) (ab_mkC s_Shapes_clear (Nat.le_of_ble_eq_true rfl) (Nat.le_of_ble_eq_true rfl) (by decide) (by decide)) (k3 214 rfl rfl) i_Shapes_clear v_Shapes_clear c4 rfl rfl (Nat.le_of_ble_eq_true rfl) (fun h9 q10 => ?_)
  obtain ⟨y14, c12, c13, f11⟩ := q10
  have c15 : h9[x+325]? = some (.inr (4, [.ref (x + 325 + 1), .int 0, .ref (x + 325 + 70), .ref (x + 325 + 138), .int 0, .ref (x + 325 + 182), .ref (x + 325 + 183), .int 0, .ref (x + 325 + 184), .ref (x + 325 + 185), .ref (x + 325 + 186), .ref (x + 325 + 187), .ref (x + 325 + 188), .ref (x + 325 + 189), .ref (x + 325 + 190), .int 0, .ref (x + 325 + 191), .int 0])) := ab_fr_at f11 c3 (by omega)
  have c16 : h9[x+325+138]? = some (.inr (3, [.ref (x + 325 + 138 + 1), .ref (x + 325 + 138 + 10), .ref (x + 325 + 138 + 43), .int 0])) := ab_fr_at f11 c5 (by omega)
  have c17 : h9[x+325+138+43]? = some (.inl (.int, 9, .inl zf)) := ab_fr_at f11 c7 (by omega)
  have fr18 : ab_fr (fun j => j = x + 325 ∨ j = x + 325 + 70 ∨ j = x + 325 + 138 ∨ j = x + 325 + 70 + 67 ∨ j = x + 325 + 138 + 43) h h9 := ab_fr_tr fr8 (ab_fr_mono f11 (by intro i hi; first | omega | (dsimp only at *; omega)))
  clear c3 c4 c5 c6 c7 f11 fr8
  try clear h1
  replace c12 : h9[x+325+70]? = some (.inr (3, [.ref (x + 325 + 70 + 1), .ref (x + 325 + 70 + 18), .ref (x + 325 + 70 + 67), .int 0])) := c12
  replace c13 : h9[x+325+70+67]? = some (.inl (.int, 17, .inl y14)) := c13
  refine ab_aload_n d_Program_clear_12 rfl rfl rfl ?_
  refine ab_get (f := 3) d_Program_clear_13 c15 rfl (by decide) (k3 62 rfl rfl) rfl ?_
  refine ab_callV_v (As := []) (rest := []) d_Program_clear_16 (r_sclear_9 c16 c17 (by omega)) (ab_mkC s_Shapes_clear (Nat.le_of_ble_eq_true rfl) (Nat.le_of_ble_eq_true rfl) (by decide) (by decide)) (k3 214 rfl rfl) i_Shapes_clear v_Shapes_clear c16 rfl rfl (Nat.le_of_ble_eq_true rfl) (fun h19 q20 => ?_)
  obtain ⟨y24, c22, c23, f21⟩ := q20
  have c25 : h19[x+325]? = some (.inr (4, [.ref (x + 325 + 1), .int 0, .ref (x + 325 + 70), .ref (x + 325 + 138), .int 0, .ref (x + 325 + 182), .ref (x + 325 + 183), .int 0, .ref (x + 325 + 184), .ref (x + 325 + 185), .ref (x + 325 + 186), .ref (x + 325 + 187), .ref (x + 325 + 188), .ref (x + 325 + 189), .ref (x + 325 + 190), .int 0, .ref (x + 325 + 191), .int 0])) := ab_fr_at f21 c15 (by omega)
  have c26 : h19[x+325+70]? = some (.inr (3, [.ref (x + 325 + 70 + 1), .ref (x + 325 + 70 + 18), .ref (x + 325 + 70 + 67), .int 0])) := ab_fr_at f21 c12 (by omega)
  have c27 : h19[x+325+70+67]? = some (.inl (.int, 17, .inl y14)) := ab_fr_at f21 c13 (by omega)
  have fr28 : ab_fr (fun j => j = x + 325 ∨ j = x + 325 + 70 ∨ j = x + 325 + 138 ∨ j = x + 325 + 70 + 67 ∨ j = x + 325 + 138 + 43) h h19 := ab_fr_tr fr18 (ab_fr_mono f21 (by intro i hi; first | omega | (dsimp only at *; omega)))
  clear c15 c16 c17 c12 c13 f21 fr18
  try clear h9
  replace c22 : h19[x+325+138]? = some (.inr (3, [.ref (x + 325 + 138 + 1), .ref (x + 325 + 138 + 10), .ref (x + 325 + 138 + 43), .int 0])) := c22
  replace c23 : h19[x+325+138+43]? = some (.inl (.int, 9, .inl y24)) := c23
  refine ab_aload_n d_Program_clear_19 rfl rfl rfl ?_
  refine ab_iconst (v := 0) d_Program_clear_20 (by decide) ?_
  refine ab_put (f := 4) d_Program_clear_21 c25 rfl (by decide) (k3 69 rfl rfl) rfl rfl (fun _ => rfl) (fun _ => rfl) (Nat.le_of_ble_eq_true rfl) ?_
  show ab_V _ _ _ _ _ _ _ 24 [some (.ref (x + 325))] [] (h19.set (x+325) (.inr (4, [.ref (x + 325 + 1), .int 0, .ref (x + 325 + 70), .ref (x + 325 + 138), .int 0, .ref (x + 325 + 182), .ref (x + 325 + 183), .int 0, .ref (x + 325 + 184), .ref (x + 325 + 185), .ref (x + 325 + 186), .ref (x + 325 + 187), .ref (x + 325 + 188), .ref (x + 325 + 189), .ref (x + 325 + 190), .int 0, .ref (x + 325 + 191), .int 0])))
  refine ab_gen (fun h29 e30 => ?_)
  have c31 : h29[x+325]? = some (.inr (4, [.ref (x + 325 + 1), .int 0, .ref (x + 325 + 70), .ref (x + 325 + 138), .int 0, .ref (x + 325 + 182), .ref (x + 325 + 183), .int 0, .ref (x + 325 + 184), .ref (x + 325 + 185), .ref (x + 325 + 186), .ref (x + 325 + 187), .ref (x + 325 + 188), .ref (x + 325 + 189), .ref (x + 325 + 190), .int 0, .ref (x + 325 + 191), .int 0])) := ab_self e30 c25
  have c32 : h29[x+325+70]? = some (.inr (3, [.ref (x + 325 + 70 + 1), .ref (x + 325 + 70 + 18), .ref (x + 325 + 70 + 67), .int 0])) := ab_other e30 (by omega) c26
  have c33 : h29[x+325+70+67]? = some (.inl (.int, 17, .inl y14)) := ab_other e30 (by omega) c27
  have c34 : h29[x+325+138]? = some (.inr (3, [.ref (x + 325 + 138 + 1), .ref (x + 325 + 138 + 10), .ref (x + 325 + 138 + 43), .int 0])) := ab_other e30 (by omega) c22
  have c35 : h29[x+325+138+43]? = some (.inl (.int, 9, .inl y24)) := ab_other e30 (by omega) c23
  have fr36 : ab_fr (fun j => j = x + 325 ∨ j = x + 325 + 70 ∨ j = x + 325 + 138 ∨ j = x + 325 + 70 + 67 ∨ j = x + 325 + 138 + 43) h h29 := ab_fr_set fr28 e30 (by first | (show _ ∧ _; omega) | (show _ ∨ _; omega) | (show _ = _; omega) | (show _ ≤ _; omega))
  clear c25 c26 c27 c22 c23 fr28 e30
  try clear h19
  refine ab_aload_n d_Program_clear_24 rfl rfl rfl ?_
  refine ab_iconst (v := 0) d_Program_clear_25 (by decide) ?_
  refine ab_put (f := 7) d_Program_clear_26 c31 rfl (by decide) (k3 80 rfl rfl) rfl rfl (fun _ => rfl) (fun _ => rfl) (Nat.le_of_ble_eq_true rfl) ?_
  show ab_V _ _ _ _ _ _ _ 29 [some (.ref (x + 325))] [] (h29.set (x+325) (.inr (4, [.ref (x + 325 + 1), .int 0, .ref (x + 325 + 70), .ref (x + 325 + 138), .int 0, .ref (x + 325 + 182), .ref (x + 325 + 183), .int 0, .ref (x + 325 + 184), .ref (x + 325 + 185), .ref (x + 325 + 186), .ref (x + 325 + 187), .ref (x + 325 + 188), .ref (x + 325 + 189), .ref (x + 325 + 190), .int 0, .ref (x + 325 + 191), .int 0])))
  refine ab_gen (fun h37 e38 => ?_)
  have c39 : h37[x+325]? = some (.inr (4, [.ref (x + 325 + 1), .int 0, .ref (x + 325 + 70), .ref (x + 325 + 138), .int 0, .ref (x + 325 + 182), .ref (x + 325 + 183), .int 0, .ref (x + 325 + 184), .ref (x + 325 + 185), .ref (x + 325 + 186), .ref (x + 325 + 187), .ref (x + 325 + 188), .ref (x + 325 + 189), .ref (x + 325 + 190), .int 0, .ref (x + 325 + 191), .int 0])) := ab_self e38 c31
  have c40 : h37[x+325+70]? = some (.inr (3, [.ref (x + 325 + 70 + 1), .ref (x + 325 + 70 + 18), .ref (x + 325 + 70 + 67), .int 0])) := ab_other e38 (by omega) c32
  have c41 : h37[x+325+70+67]? = some (.inl (.int, 17, .inl y14)) := ab_other e38 (by omega) c33
  have c42 : h37[x+325+138]? = some (.inr (3, [.ref (x + 325 + 138 + 1), .ref (x + 325 + 138 + 10), .ref (x + 325 + 138 + 43), .int 0])) := ab_other e38 (by omega) c34
  have c43 : h37[x+325+138+43]? = some (.inl (.int, 9, .inl y24)) := ab_other e38 (by omega) c35
  have fr44 : ab_fr (fun j => j = x + 325 ∨ j = x + 325 + 70 ∨ j = x + 325 + 138 ∨ j = x + 325 + 70 + 67 ∨ j = x + 325 + 138 + 43) h h37 := ab_fr_set fr36 e38 (by first | (show _ ∧ _; omega) | (show _ ∨ _; omega) | (show _ = _; omega) | (show _ ≤ _; omega))
  clear c31 c32 c33 c34 c35 fr36 e38
  try clear h29
  refine ab_aload_n d_Program_clear_29 rfl rfl rfl ?_
  refine ab_iconst (v := 0) d_Program_clear_30 (by decide) ?_
  refine ab_put (f := 15) d_Program_clear_31 c39 rfl (by decide) (k3 107 rfl rfl) rfl rfl (fun _ => rfl) (fun _ => rfl) (Nat.le_of_ble_eq_true rfl) ?_
  show ab_V _ _ _ _ _ _ _ 34 [some (.ref (x + 325))] [] (h37.set (x+325) (.inr (4, [.ref (x + 325 + 1), .int 0, .ref (x + 325 + 70), .ref (x + 325 + 138), .int 0, .ref (x + 325 + 182), .ref (x + 325 + 183), .int 0, .ref (x + 325 + 184), .ref (x + 325 + 185), .ref (x + 325 + 186), .ref (x + 325 + 187), .ref (x + 325 + 188), .ref (x + 325 + 189), .ref (x + 325 + 190), .int 0, .ref (x + 325 + 191), .int 0])))
  refine ab_gen (fun h45 e46 => ?_)
  have c47 : h45[x+325]? = some (.inr (4, [.ref (x + 325 + 1), .int 0, .ref (x + 325 + 70), .ref (x + 325 + 138), .int 0, .ref (x + 325 + 182), .ref (x + 325 + 183), .int 0, .ref (x + 325 + 184), .ref (x + 325 + 185), .ref (x + 325 + 186), .ref (x + 325 + 187), .ref (x + 325 + 188), .ref (x + 325 + 189), .ref (x + 325 + 190), .int 0, .ref (x + 325 + 191), .int 0])) := ab_self e46 c39
  have c48 : h45[x+325+70]? = some (.inr (3, [.ref (x + 325 + 70 + 1), .ref (x + 325 + 70 + 18), .ref (x + 325 + 70 + 67), .int 0])) := ab_other e46 (by omega) c40
  have c49 : h45[x+325+70+67]? = some (.inl (.int, 17, .inl y14)) := ab_other e46 (by omega) c41
  have c50 : h45[x+325+138]? = some (.inr (3, [.ref (x + 325 + 138 + 1), .ref (x + 325 + 138 + 10), .ref (x + 325 + 138 + 43), .int 0])) := ab_other e46 (by omega) c42
  have c51 : h45[x+325+138+43]? = some (.inl (.int, 9, .inl y24)) := ab_other e46 (by omega) c43
  have fr52 : ab_fr (fun j => j = x + 325 ∨ j = x + 325 + 70 ∨ j = x + 325 + 138 ∨ j = x + 325 + 70 + 67 ∨ j = x + 325 + 138 + 43) h h45 := ab_fr_set fr44 e46 (by first | (show _ ∧ _; omega) | (show _ ∨ _; omega) | (show _ = _; omega) | (show _ ≤ _; omega))
  clear c39 c40 c41 c42 c43 fr44 e46
  try clear h37
  refine ab_aload_n d_Program_clear_34 rfl rfl rfl ?_
  refine ab_iconst (v := 0) d_Program_clear_35 (by decide) ?_
  refine ab_put (f := 17) d_Program_clear_36 c47 rfl (by decide) (k3 112 rfl rfl) rfl rfl (fun _ => rfl) (fun _ => rfl) (Nat.le_of_ble_eq_true rfl) ?_
  show ab_V _ _ _ _ _ _ _ 39 [some (.ref (x + 325))] [] (h45.set (x+325) (.inr (4, [.ref (x + 325 + 1), .int 0, .ref (x + 325 + 70), .ref (x + 325 + 138), .int 0, .ref (x + 325 + 182), .ref (x + 325 + 183), .int 0, .ref (x + 325 + 184), .ref (x + 325 + 185), .ref (x + 325 + 186), .ref (x + 325 + 187), .ref (x + 325 + 188), .ref (x + 325 + 189), .ref (x + 325 + 190), .int 0, .ref (x + 325 + 191), .int 0])))
  refine ab_gen (fun h53 e54 => ?_)
  have c55 : h53[x+325]? = some (.inr (4, [.ref (x + 325 + 1), .int 0, .ref (x + 325 + 70), .ref (x + 325 + 138), .int 0, .ref (x + 325 + 182), .ref (x + 325 + 183), .int 0, .ref (x + 325 + 184), .ref (x + 325 + 185), .ref (x + 325 + 186), .ref (x + 325 + 187), .ref (x + 325 + 188), .ref (x + 325 + 189), .ref (x + 325 + 190), .int 0, .ref (x + 325 + 191), .int 0])) := ab_self e54 c47
  have c56 : h53[x+325+70]? = some (.inr (3, [.ref (x + 325 + 70 + 1), .ref (x + 325 + 70 + 18), .ref (x + 325 + 70 + 67), .int 0])) := ab_other e54 (by omega) c48
  have c57 : h53[x+325+70+67]? = some (.inl (.int, 17, .inl y14)) := ab_other e54 (by omega) c49
  have c58 : h53[x+325+138]? = some (.inr (3, [.ref (x + 325 + 138 + 1), .ref (x + 325 + 138 + 10), .ref (x + 325 + 138 + 43), .int 0])) := ab_other e54 (by omega) c50
  have c59 : h53[x+325+138+43]? = some (.inl (.int, 9, .inl y24)) := ab_other e54 (by omega) c51
  have fr60 : ab_fr (fun j => j = x + 325 ∨ j = x + 325 + 70 ∨ j = x + 325 + 138 ∨ j = x + 325 + 70 + 67 ∨ j = x + 325 + 138 + 43) h h53 := ab_fr_set fr52 e54 (by first | (show _ ∧ _; omega) | (show _ ∨ _; omega) | (show _ = _; omega) | (show _ ≤ _; omega))
  clear c47 c48 c49 c50 c51 fr52 e54
  try clear h45
  exact ab_vret d_Program_clear_39 rfl (Nat.le_refl _) (Nat.le_refl _) (by exact ⟨rfl, _, _, c55, c56, c58, c57, c59, fr60⟩)
set_option maxRecDepth 20000 in
set_option maxHeartbeats 2000000 in
theorem r_behindBlanks {h : List ab_E}  {x : Nat}  (lo : h[x + 1]? = some (.inr (1, [.ref (x + 1 + 1), .int 0, .int 0, .int 0, .int 0, .int 0, .ref (x + 1 + 2), .ref (x + 1 + 3), .ref (x + 1 + 4), .ref (x + 1 + 5), .int 0, .int 0, .ref (x + 1 + 6)])))  : ab_M y_Lexer_behindBlanks { frames := 0, cells := 0, slots := 0, locals := 0 } [.ref (x + 1), .int 0] h (ab_A (some (.int (0))) (fun h1 => h = h1)) := by
  refine ab_of2 (lv := [some (.ref (x + 1)), some (.int 0), none, none, none]) 3 rfl rfl (Nat.le_of_ble_eq_true rfl) ?_
  refine ab_iconst (v := 0) d_Lexer_behindBlanks_0 (by decide) ?_
  refine ab_istore_n (lv' := [some (.ref (x + 1)), some (.int 0), some (.int 0), none, none]) d_Lexer_behindBlanks_1 rfl (by decide) rfl ?_
  refine ab_iload_n d_Lexer_behindBlanks_2 rfl rfl ?_
  refine ab_istore_n (lv' := [some (.ref (x + 1)), some (.int 0), some (.int 0), some (.int 0), none]) d_Lexer_behindBlanks_3 rfl (by decide) rfl ?_
  refine ab_iload_n d_Lexer_behindBlanks_4 rfl rfl ?_
  refine ab_aload_n d_Lexer_behindBlanks_5 rfl rfl rfl ?_
  refine ab_get (f := 1) d_Lexer_behindBlanks_6 lo rfl (by decide) (k1 95 rfl rfl) rfl ?_
  refine ab_icmp_ge (tgt := 76) d_Lexer_behindBlanks_9 (by decide) (fun q1 => ?_) (fun q1 => by exact absurd (by decide) q1)
  refine ab_aload_n d_Lexer_behindBlanks_76 rfl rfl rfl ?_
  refine ab_get (f := 1) d_Lexer_behindBlanks_77 lo rfl (by decide) (k1 95 rfl rfl) rfl ?_
  exact ab_iret d_Lexer_behindBlanks_80 rfl (Nat.le_refl _) (Nat.le_refl _) (by exact ⟨rfl, rfl⟩)
set_option maxRecDepth 20000 in
set_option maxHeartbeats 2000000 in
theorem r_note {h : List ab_E}  {k8f : Nat → Int32} {k9f : Nat → Int32} {x : Nat}  (lo : h[x + 1]? = some (.inr (1, [.ref (x + 1 + 1), .int 0, .int 0, .int 0, .int 0, .int 0, .ref (x + 1 + 2), .ref (x + 1 + 3), .ref (x + 1 + 4), .ref (x + 1 + 5), .int 0, .int 0, .ref (x + 1 + 6)]))) (k6a : h[x + 1 + 2]? = some (.inl (.int, 6001, .inl (fun _ => 0)))) (k7a : h[x + 1 + 3]? = some (.inl (.int, 6001, .inl (fun _ => 0)))) (k8a : h[x + 1 + 4]? = some (.inl (.int, 6001, .inl k8f))) (k9a : h[x + 1 + 5]? = some (.inl (.boolean, 6001, .inl k9f)))  : ab_M y_Lexer_note { frames := 0, cells := 0, slots := 0, locals := 0 } [.ref (x + 1), .int 0, .int 0, .int 0, .int 0] h (ab_A none (fun h1 => h1[x + 1]? = some (.inr (1, [.ref (x + 1 + 1), .int 0, .int 0, .int 0, .int 0, .int 0, .ref (x + 1 + 2), .ref (x + 1 + 3), .ref (x + 1 + 4), .ref (x + 1 + 5), .int 1, .int 0, .ref (x + 1 + 6)])) ∧ h1[x+1+2]? = some (.inl (.int, 6001, .inl (fun _ => 0))) ∧ h1[x+1+3]? = some (.inl (.int, 6001, .inl (fun _ => 0))) ∧ ab_fr (fun j => j = x + 1 ∨ j = x+1+2 ∨ j = x+1+3 ∨ j = x+1+4 ∨ j = x+1+5) h h1)) := by
  refine ab_of2 (lv := [some (.ref (x + 1)), some (.int 0), some (.int 0), some (.int 0), some (.int 0)]) 0 rfl rfl (Nat.le_of_ble_eq_true rfl) ?_
  refine ab_aload_n d_Lexer_note_0 rfl rfl rfl ?_
  refine ab_get (f := 10) d_Lexer_note_1 lo rfl (by decide) (k1 112 rfl rfl) rfl ?_
  refine ab_aload_n d_Lexer_note_4 rfl rfl rfl ?_
  refine ab_get (f := 6) d_Lexer_note_5 lo rfl (by decide) (k1 108 rfl rfl) rfl ?_
  refine ab_alen (v := 6001) d_Lexer_note_8 tI k6a (show Int32.ofNat 6001 = 6001 by decide) ?_
  refine ab_icmp_ge (tgt := 63) d_Lexer_note_9 (by decide) (fun q1 => by exact absurd q1 (by decide)) (fun q1 => ?_)
  refine ab_aload_n d_Lexer_note_12 rfl rfl rfl ?_
  refine ab_get (f := 6) d_Lexer_note_13 lo rfl (by decide) (k1 108 rfl rfl) rfl ?_
  refine ab_aload_n d_Lexer_note_16 rfl rfl rfl ?_
  refine ab_get (f := 10) d_Lexer_note_17 lo rfl (by decide) (k1 112 rfl rfl) rfl ?_
  refine ab_iload_n d_Lexer_note_20 rfl rfl ?_
  refine ab_iast d_Lexer_note_21 tI k6a (in_of (by decide) (by decide) (by decide)) ?_
  refine ab_gen (fun h2 e3 => ?_)
  have c4 : h2[x+1]? = some (.inr (1, [.ref (x + 1 + 1), .int 0, .int 0, .int 0, .int 0, .int 0, .ref (x + 1 + 2), .ref (x + 1 + 3), .ref (x + 1 + 4), .ref (x + 1 + 5), .int 0, .int 0, .ref (x + 1 + 6)])) := ab_other e3 (by omega) lo
  have c5 : h2[x+1+2]? = some (.inl (.int, 6001, .inl (upd (fun _ => 0) (0 : Int32).toNatClampNeg 0))) := ab_self e3 k6a
  have c6 : h2[x+1+3]? = some (.inl (.int, 6001, .inl (fun _ => 0))) := ab_other e3 (by omega) k7a
  have c7 : h2[x+1+4]? = some (.inl (.int, 6001, .inl k8f)) := ab_other e3 (by omega) k8a
  have c8 : h2[x+1+5]? = some (.inl (.boolean, 6001, .inl k9f)) := ab_other e3 (by omega) k9a
  have fr9 : ab_fr (fun j => j = x + 1 ∨ j = x+1+2 ∨ j = x+1+3 ∨ j = x+1+4 ∨ j = x+1+5) h h2 := ab_fr_set (ab_fr_rf _ _) e3 (by first | (show _ ∧ _; omega) | (show _ ∨ _; omega) | (show _ = _; omega) | (show _ ≤ _; omega))
  clear e3
  refine ab_aload_n d_Lexer_note_22 rfl rfl rfl ?_
  refine ab_get (f := 7) d_Lexer_note_23 c4 rfl (by decide) (k1 109 rfl rfl) rfl ?_
  refine ab_aload_n d_Lexer_note_26 rfl rfl rfl ?_
  refine ab_get (f := 10) d_Lexer_note_27 c4 rfl (by decide) (k1 112 rfl rfl) rfl ?_
  refine ab_iload_n d_Lexer_note_30 rfl rfl ?_
  refine ab_iast d_Lexer_note_31 tI c6 (in_of (by decide) (by decide) (by decide)) ?_
  refine ab_gen (fun h10 e11 => ?_)
  have c12 : h10[x+1]? = some (.inr (1, [.ref (x + 1 + 1), .int 0, .int 0, .int 0, .int 0, .int 0, .ref (x + 1 + 2), .ref (x + 1 + 3), .ref (x + 1 + 4), .ref (x + 1 + 5), .int 0, .int 0, .ref (x + 1 + 6)])) := ab_other e11 (by omega) c4
  have c13 : h10[x+1+2]? = some (.inl (.int, 6001, .inl (upd (fun _ => 0) (0 : Int32).toNatClampNeg 0))) := ab_other e11 (by omega) c5
  have c14 : h10[x+1+3]? = some (.inl (.int, 6001, .inl (upd (fun _ => 0) (0 : Int32).toNatClampNeg 0))) := ab_self e11 c6
  have c15 : h10[x+1+4]? = some (.inl (.int, 6001, .inl k8f)) := ab_other e11 (by omega) c7
  have c16 : h10[x+1+5]? = some (.inl (.boolean, 6001, .inl k9f)) := ab_other e11 (by omega) c8
  have fr17 : ab_fr (fun j => j = x + 1 ∨ j = x+1+2 ∨ j = x+1+3 ∨ j = x+1+4 ∨ j = x+1+5) h h10 := ab_fr_set fr9 e11 (by first | (show _ ∧ _; omega) | (show _ ∨ _; omega) | (show _ = _; omega) | (show _ ≤ _; omega))
  clear c4 c5 c6 c7 c8 fr9 e11
  try clear h2
  refine ab_aload_n d_Lexer_note_32 rfl rfl rfl ?_
  refine ab_get (f := 8) d_Lexer_note_33 c12 rfl (by decide) (k1 110 rfl rfl) rfl ?_
  refine ab_aload_n d_Lexer_note_36 rfl rfl rfl ?_
  refine ab_get (f := 10) d_Lexer_note_37 c12 rfl (by decide) (k1 112 rfl rfl) rfl ?_
  refine ab_iload_n d_Lexer_note_40 rfl rfl ?_
  refine ab_iast d_Lexer_note_41 tI c15 (in_of (by decide) (by decide) (by decide)) ?_
  refine ab_gen (fun h18 e19 => ?_)
  have c20 : h18[x+1]? = some (.inr (1, [.ref (x + 1 + 1), .int 0, .int 0, .int 0, .int 0, .int 0, .ref (x + 1 + 2), .ref (x + 1 + 3), .ref (x + 1 + 4), .ref (x + 1 + 5), .int 0, .int 0, .ref (x + 1 + 6)])) := ab_other e19 (by omega) c12
  have c21 : h18[x+1+2]? = some (.inl (.int, 6001, .inl (upd (fun _ => 0) (0 : Int32).toNatClampNeg 0))) := ab_other e19 (by omega) c13
  have c22 : h18[x+1+3]? = some (.inl (.int, 6001, .inl (upd (fun _ => 0) (0 : Int32).toNatClampNeg 0))) := ab_other e19 (by omega) c14
  have c23 : h18[x+1+4]? = some (.inl (.int, 6001, .inl (upd k8f (0 : Int32).toNatClampNeg 0))) := ab_self e19 c15
  have c24 : h18[x+1+5]? = some (.inl (.boolean, 6001, .inl k9f)) := ab_other e19 (by omega) c16
  have fr25 : ab_fr (fun j => j = x + 1 ∨ j = x+1+2 ∨ j = x+1+3 ∨ j = x+1+4 ∨ j = x+1+5) h h18 := ab_fr_set fr17 e19 (by first | (show _ ∧ _; omega) | (show _ ∨ _; omega) | (show _ = _; omega) | (show _ ≤ _; omega))
  clear c12 c13 c14 c15 c16 fr17 e19
  try clear h10
  refine ab_aload_n d_Lexer_note_42 rfl rfl rfl ?_
  refine ab_get (f := 9) d_Lexer_note_43 c20 rfl (by decide) (k1 111 rfl rfl) rfl ?_
  refine ab_aload_n d_Lexer_note_46 rfl rfl rfl ?_
  refine ab_get (f := 10) d_Lexer_note_47 c20 rfl (by decide) (k1 112 rfl rfl) rfl ?_
  refine ab_iload d_Lexer_note_50 rfl ?_
  refine ab_zast d_Lexer_note_52 tZ c24 (in_of (by decide) (by decide) (by decide)) ?_
  refine ab_gen (fun h26 e27 => ?_)
  have c28 : h26[x+1]? = some (.inr (1, [.ref (x + 1 + 1), .int 0, .int 0, .int 0, .int 0, .int 0, .ref (x + 1 + 2), .ref (x + 1 + 3), .ref (x + 1 + 4), .ref (x + 1 + 5), .int 0, .int 0, .ref (x + 1 + 6)])) := ab_other e27 (by omega) c20
  have c29 : h26[x+1+2]? = some (.inl (.int, 6001, .inl (upd (fun _ => 0) (0 : Int32).toNatClampNeg 0))) := ab_other e27 (by omega) c21
  have c30 : h26[x+1+3]? = some (.inl (.int, 6001, .inl (upd (fun _ => 0) (0 : Int32).toNatClampNeg 0))) := ab_other e27 (by omega) c22
  have c31 : h26[x+1+4]? = some (.inl (.int, 6001, .inl (upd k8f (0 : Int32).toNatClampNeg 0))) := ab_other e27 (by omega) c23
  have c32 : h26[x+1+5]? = some (.inl (.boolean, 6001, .inl (upd k9f (0 : Int32).toNatClampNeg (vp_nar .boolean 0)))) := ab_self e27 c24
  have fr33 : ab_fr (fun j => j = x + 1 ∨ j = x+1+2 ∨ j = x+1+3 ∨ j = x+1+4 ∨ j = x+1+5) h h26 := ab_fr_set fr25 e27 (by first | (show _ ∧ _; omega) | (show _ ∨ _; omega) | (show _ = _; omega) | (show _ ≤ _; omega))
  clear c20 c21 c22 c23 c24 fr25 e27
  try clear h18
  refine ab_aload_n d_Lexer_note_53 rfl rfl rfl ?_
  refine ab_dup d_Lexer_note_54 rfl ?_
  refine ab_get (f := 10) d_Lexer_note_55 c28 rfl (by decide) (k1 112 rfl rfl) rfl ?_
  refine ab_iconst (v := 1) d_Lexer_note_58 (by decide) ?_
  refine ab_iadd d_Lexer_note_59 ?_
  refine ab_topi (fun x34 ex34 => ?_)
  obtain rfl : x34 = 1 := ex34.trans (by decide)
  clear ex34
  refine ab_put (f := 10) d_Lexer_note_60 c28 rfl (by decide) (k1 112 rfl rfl) rfl rfl (fun _ => rfl) (fun _ => rfl) (Nat.le_of_ble_eq_true rfl) ?_
  show ab_V _ _ _ _ _ _ _ 63 [some (.ref (x + 1)), some (.int 0), some (.int 0), some (.int 0), some (.int 0)] [] (h26.set (x+1) (.inr (1, [.ref (x + 1 + 1), .int 0, .int 0, .int 0, .int 0, .int 0, .ref (x + 1 + 2), .ref (x + 1 + 3), .ref (x + 1 + 4), .ref (x + 1 + 5), .int 1, .int 0, .ref (x + 1 + 6)])))
  refine ab_gen (fun h35 e36 => ?_)
  have c37 : h35[x+1]? = some (.inr (1, [.ref (x + 1 + 1), .int 0, .int 0, .int 0, .int 0, .int 0, .ref (x + 1 + 2), .ref (x + 1 + 3), .ref (x + 1 + 4), .ref (x + 1 + 5), .int 1, .int 0, .ref (x + 1 + 6)])) := ab_self e36 c28
  have c38 : h35[x+1+2]? = some (.inl (.int, 6001, .inl (upd (fun _ => 0) (0 : Int32).toNatClampNeg 0))) := ab_other e36 (by omega) c29
  have c39 : h35[x+1+3]? = some (.inl (.int, 6001, .inl (upd (fun _ => 0) (0 : Int32).toNatClampNeg 0))) := ab_other e36 (by omega) c30
  have c40 : h35[x+1+4]? = some (.inl (.int, 6001, .inl (upd k8f (0 : Int32).toNatClampNeg 0))) := ab_other e36 (by omega) c31
  have c41 : h35[x+1+5]? = some (.inl (.boolean, 6001, .inl (upd k9f (0 : Int32).toNatClampNeg (vp_nar .boolean 0)))) := ab_other e36 (by omega) c32
  have fr42 : ab_fr (fun j => j = x + 1 ∨ j = x+1+2 ∨ j = x+1+3 ∨ j = x+1+4 ∨ j = x+1+5) h h35 := ab_fr_set fr33 e36 (by first | (show _ ∧ _; omega) | (show _ ∨ _; omega) | (show _ = _; omega) | (show _ ≤ _; omega))
  clear c28 c29 c30 c31 c32 fr33 e36
  try clear h26
  exact ab_vret d_Lexer_note_63 rfl (Nat.le_refl _) (Nat.le_refl _) (by exact ⟨rfl, c37, (by have z := c38; rw [upd_0] at z; exact z), (by have z := c39; rw [upd_0] at z; exact z), fr42⟩)
set_option maxRecDepth 20000 in
set_option maxHeartbeats 2000000 in
theorem r_Lexer_begin {h : List ab_E}  {k8f : Nat → Int32} {k9f : Nat → Int32} {x : Nat}  (lo : h[x + 1]? = some (.inr (1, [.ref (x + 1 + 1), .int 0, .int 0, .int 0, .int 0, .int 0, .ref (x + 1 + 2), .ref (x + 1 + 3), .ref (x + 1 + 4), .ref (x + 1 + 5), .int 0, .int 0, .ref (x + 1 + 6)]))) (k6a : h[x + 1 + 2]? = some (.inl (.int, 6001, .inl (fun _ => 0)))) (k7a : h[x + 1 + 3]? = some (.inl (.int, 6001, .inl (fun _ => 0)))) (k8a : h[x + 1 + 4]? = some (.inl (.int, 6001, .inl k8f))) (k9a : h[x + 1 + 5]? = some (.inl (.boolean, 6001, .inl k9f)))  : ab_M y_Lexer_begin { frames := 1, cells := 0, slots := 0, locals := 40 } [.ref (x + 1)] h (ab_A none (fun h1 => h1[x + 1]? = some (.inr (1, [.ref (x + 1 + 1), .int 0, .int 0, .int 0, .int 0, .int 0, .ref (x + 1 + 2), .ref (x + 1 + 3), .ref (x + 1 + 4), .ref (x + 1 + 5), .int 1, .int 0, .ref (x + 1 + 6)])) ∧ ab_fr (fun j => j = x + 1 ∨ j = x+1+2 ∨ j = x+1+3 ∨ j = x+1+4 ∨ j = x+1+5) h h1)) := by
  refine ab_of2 (lv := [some (.ref (x + 1)), none, none, none]) 3 rfl rfl (Nat.le_of_ble_eq_true rfl) ?_
  refine ab_aload_n d_Lexer_begin_0 rfl rfl rfl ?_
  refine ab_iconst (v := 0) d_Lexer_begin_1 (by decide) ?_
  refine ab_put (f := 10) d_Lexer_begin_2 lo rfl (by decide) (k1 112 rfl rfl) rfl rfl (fun _ => rfl) (fun _ => rfl) (Nat.le_of_ble_eq_true rfl) ?_
  show ab_V _ _ _ _ _ _ _ 5 [some (.ref (x + 1)), none, none, none] [] (h.set (x+1) (.inr (1, [.ref (x + 1 + 1), .int 0, .int 0, .int 0, .int 0, .int 0, .ref (x + 1 + 2), .ref (x + 1 + 3), .ref (x + 1 + 4), .ref (x + 1 + 5), .int 0, .int 0, .ref (x + 1 + 6)])))
  refine ab_gen (fun h1 e2 => ?_)
  have c3 : h1[x+1]? = some (.inr (1, [.ref (x + 1 + 1), .int 0, .int 0, .int 0, .int 0, .int 0, .ref (x + 1 + 2), .ref (x + 1 + 3), .ref (x + 1 + 4), .ref (x + 1 + 5), .int 0, .int 0, .ref (x + 1 + 6)])) := ab_self e2 lo
  have c4 : h1[x+1+2]? = some (.inl (.int, 6001, .inl (fun _ => 0))) := ab_other e2 (by omega) k6a
  have c5 : h1[x+1+3]? = some (.inl (.int, 6001, .inl (fun _ => 0))) := ab_other e2 (by omega) k7a
  have c6 : h1[x+1+4]? = some (.inl (.int, 6001, .inl k8f)) := ab_other e2 (by omega) k8a
  have c7 : h1[x+1+5]? = some (.inl (.boolean, 6001, .inl k9f)) := ab_other e2 (by omega) k9a
  have fr8 : ab_fr (fun j => j = x + 1 ∨ j = x+1+2 ∨ j = x+1+3 ∨ j = x+1+4 ∨ j = x+1+5) h h1 := ab_fr_set (ab_fr_rf _ _) e2 (by first | (show _ ∧ _; omega) | (show _ ∨ _; omega) | (show _ = _; omega) | (show _ ≤ _; omega))
  clear e2
  refine ab_aload_n d_Lexer_begin_5 rfl rfl rfl ?_
  refine ab_iconst (v := 0) d_Lexer_begin_6 (by decide) ?_
  refine ab_put (f := 4) d_Lexer_begin_7 c3 rfl (by decide) (k1 104 rfl rfl) rfl rfl (fun _ => rfl) (fun _ => rfl) (Nat.le_of_ble_eq_true rfl) ?_
  show ab_V _ _ _ _ _ _ _ 10 [some (.ref (x + 1)), none, none, none] [] (h1.set (x+1) (.inr (1, [.ref (x + 1 + 1), .int 0, .int 0, .int 0, .int 0, .int 0, .ref (x + 1 + 2), .ref (x + 1 + 3), .ref (x + 1 + 4), .ref (x + 1 + 5), .int 0, .int 0, .ref (x + 1 + 6)])))
  refine ab_gen (fun h9 e10 => ?_)
  have c11 : h9[x+1]? = some (.inr (1, [.ref (x + 1 + 1), .int 0, .int 0, .int 0, .int 0, .int 0, .ref (x + 1 + 2), .ref (x + 1 + 3), .ref (x + 1 + 4), .ref (x + 1 + 5), .int 0, .int 0, .ref (x + 1 + 6)])) := ab_self e10 c3
  have c12 : h9[x+1+2]? = some (.inl (.int, 6001, .inl (fun _ => 0))) := ab_other e10 (by omega) c4
  have c13 : h9[x+1+3]? = some (.inl (.int, 6001, .inl (fun _ => 0))) := ab_other e10 (by omega) c5
  have c14 : h9[x+1+4]? = some (.inl (.int, 6001, .inl k8f)) := ab_other e10 (by omega) c6
  have c15 : h9[x+1+5]? = some (.inl (.boolean, 6001, .inl k9f)) := ab_other e10 (by omega) c7
  have fr16 : ab_fr (fun j => j = x + 1 ∨ j = x+1+2 ∨ j = x+1+3 ∨ j = x+1+4 ∨ j = x+1+5) h h9 := ab_fr_set fr8 e10 (by first | (show _ ∧ _; omega) | (show _ ∨ _; omega) | (show _ = _; omega) | (show _ ≤ _; omega))
  clear c3 c4 c5 c6 c7 fr8 e10
  try clear h1
  refine ab_aload_n d_Lexer_begin_10 rfl rfl rfl ?_
  refine ab_iconst (v := 0) d_Lexer_begin_11 (by decide) ?_
  refine ab_put (f := 5) d_Lexer_begin_12 c11 rfl (by decide) (k1 106 rfl rfl) rfl rfl (fun _ => rfl) (fun _ => rfl) (Nat.le_of_ble_eq_true rfl) ?_
  show ab_V _ _ _ _ _ _ _ 15 [some (.ref (x + 1)), none, none, none] [] (h9.set (x+1) (.inr (1, [.ref (x + 1 + 1), .int 0, .int 0, .int 0, .int 0, .int 0, .ref (x + 1 + 2), .ref (x + 1 + 3), .ref (x + 1 + 4), .ref (x + 1 + 5), .int 0, .int 0, .ref (x + 1 + 6)])))
  refine ab_gen (fun h17 e18 => ?_)
  have c19 : h17[x+1]? = some (.inr (1, [.ref (x + 1 + 1), .int 0, .int 0, .int 0, .int 0, .int 0, .ref (x + 1 + 2), .ref (x + 1 + 3), .ref (x + 1 + 4), .ref (x + 1 + 5), .int 0, .int 0, .ref (x + 1 + 6)])) := ab_self e18 c11
  have c20 : h17[x+1+2]? = some (.inl (.int, 6001, .inl (fun _ => 0))) := ab_other e18 (by omega) c12
  have c21 : h17[x+1+3]? = some (.inl (.int, 6001, .inl (fun _ => 0))) := ab_other e18 (by omega) c13
  have c22 : h17[x+1+4]? = some (.inl (.int, 6001, .inl k8f)) := ab_other e18 (by omega) c14
  have c23 : h17[x+1+5]? = some (.inl (.boolean, 6001, .inl k9f)) := ab_other e18 (by omega) c15
  have fr24 : ab_fr (fun j => j = x + 1 ∨ j = x+1+2 ∨ j = x+1+3 ∨ j = x+1+4 ∨ j = x+1+5) h h17 := ab_fr_set fr16 e18 (by first | (show _ ∧ _; omega) | (show _ ∨ _; omega) | (show _ = _; omega) | (show _ ≤ _; omega))
  clear c11 c12 c13 c14 c15 fr16 e18
  try clear h9
  refine ab_iconst (v := 1) d_Lexer_begin_15 (by decide) ?_
  refine ab_istore_n (lv' := [some (.ref (x + 1)), some (.int 1), none, none]) d_Lexer_begin_16 rfl (by decide) rfl ?_
  refine ab_aload_n d_Lexer_begin_17 rfl rfl rfl ?_
  refine ab_iconst (v := 0) d_Lexer_begin_18 (by decide) ?_
  refine ab_callV_a (As := [.int 0]) (rest := []) d_Lexer_begin_19 (r_behindBlanks c19) (ab_mkC s_Lexer_behindBlanks (Nat.le_of_ble_eq_true rfl) (Nat.le_of_ble_eq_true rfl) (by decide) (by decide)) (k3 222 rfl rfl) i_Lexer_behindBlanks v_Lexer_behindBlanks c19 rfl rfl (Nat.le_of_ble_eq_true rfl) (fun h26 q25 => ?_)
  subst q25
  refine ab_istore_n (lv' := [some (.ref (x + 1)), some (.int 1), some (.int 0), none]) d_Lexer_begin_22 rfl (by decide) rfl ?_
  refine ab_iconst (v := 0) d_Lexer_begin_23 (by decide) ?_
  refine ab_istore_n (lv' := [some (.ref (x + 1)), some (.int 1), some (.int 0), some (.int 0)]) d_Lexer_begin_24 rfl (by decide) rfl ?_
  refine ab_iload_n d_Lexer_begin_25 rfl rfl ?_
  refine ab_sipush (v := 6000) d_Lexer_begin_26 (by decide) ?_
  refine ab_icmp_ge (tgt := 88) d_Lexer_begin_29 (by decide) (fun q27 => by exact absurd q27 (by decide)) (fun q27 => ?_)
  refine ab_iload_n d_Lexer_begin_32 rfl rfl ?_
  refine ab_if_eq (tgt := 88) d_Lexer_begin_33 (by decide) (fun q28 => by exact absurd q28 (by decide)) (fun q28 => ?_)
  refine ab_iload_n d_Lexer_begin_36 rfl rfl ?_
  refine ab_aload_n d_Lexer_begin_37 rfl rfl rfl ?_
  refine ab_get (f := 1) d_Lexer_begin_38 c19 rfl (by decide) (k1 95 rfl rfl) rfl ?_
  refine ab_icmp_ge (tgt := 88) d_Lexer_begin_41 (by decide) (fun q29 => ?_) (fun q29 => by exact absurd (by decide) q29)
  refine ab_iload_n d_Lexer_begin_88 rfl rfl ?_
  refine ab_if_eq (tgt := 103) d_Lexer_begin_89 (by decide) (fun q30 => by exact absurd q30 (by decide)) (fun q30 => ?_)
  refine ab_aload_n d_Lexer_begin_92 rfl rfl rfl ?_
  refine ab_iconst (v := 0) d_Lexer_begin_93 (by decide) ?_
  refine ab_aload_n d_Lexer_begin_94 rfl rfl rfl ?_
  refine ab_get (f := 1) d_Lexer_begin_95 c19 rfl (by decide) (k1 95 rfl rfl) rfl ?_
  refine ab_iconst (v := 0) d_Lexer_begin_98 (by decide) ?_
  refine ab_iconst (v := 0) d_Lexer_begin_99 (by decide) ?_
  refine ab_callV_v (As := [.int 0, .int 0, .int 0, .int 0]) (rest := []) d_Lexer_begin_100 (r_note c19 c20 c21 c22 c23) (ab_mkC s_Lexer_note (Nat.le_of_ble_eq_true rfl) (Nat.le_of_ble_eq_true rfl) (by decide) (by decide)) (k4 8 rfl rfl) i_Lexer_note v_Lexer_note c19 rfl rfl (Nat.le_of_ble_eq_true rfl) (fun h31 q32 => ?_)
  obtain ⟨c34, c35, c36, f33⟩ := q32
  have fr37 : ab_fr (fun j => j = x + 1 ∨ j = x+1+2 ∨ j = x+1+3 ∨ j = x+1+4 ∨ j = x+1+5) h h31 := ab_fr_tr fr24 f33
  clear c19 c20 c21 f33 fr24
  try clear h17
  replace c34 : h31[x+1]? = some (.inr (1, [.ref (x + 1 + 1), .int 0, .int 0, .int 0, .int 0, .int 0, .ref (x + 1 + 2), .ref (x + 1 + 3), .ref (x + 1 + 4), .ref (x + 1 + 5), .int 1, .int 0, .ref (x + 1 + 6)])) := c34
  replace c35 : h31[x+1+2]? = some (.inl (.int, 6001, .inl (fun _ => 0))) := c35
  replace c36 : h31[x+1+3]? = some (.inl (.int, 6001, .inl (fun _ => 0))) := c36
  refine ab_aload_n d_Lexer_begin_103 rfl rfl rfl ?_
  refine ab_iconst (v := 0) d_Lexer_begin_104 (by decide) ?_
  refine ab_put (f := 11) d_Lexer_begin_105 c34 rfl (by decide) (k1 113 rfl rfl) rfl rfl (fun _ => rfl) (fun _ => rfl) (Nat.le_of_ble_eq_true rfl) ?_
  show ab_V _ _ _ _ _ _ _ 108 [some (.ref (x + 1)), some (.int 1), some (.int 0), some (.int 0)] [] (h31.set (x+1) (.inr (1, [.ref (x + 1 + 1), .int 0, .int 0, .int 0, .int 0, .int 0, .ref (x + 1 + 2), .ref (x + 1 + 3), .ref (x + 1 + 4), .ref (x + 1 + 5), .int 1, .int 0, .ref (x + 1 + 6)])))
  refine ab_gen (fun h38 e39 => ?_)
  have c40 : h38[x+1]? = some (.inr (1, [.ref (x + 1 + 1), .int 0, .int 0, .int 0, .int 0, .int 0, .ref (x + 1 + 2), .ref (x + 1 + 3), .ref (x + 1 + 4), .ref (x + 1 + 5), .int 1, .int 0, .ref (x + 1 + 6)])) := ab_self e39 c34
  have c41 : h38[x+1+2]? = some (.inl (.int, 6001, .inl (fun _ => 0))) := ab_other e39 (by omega) c35
  have c42 : h38[x+1+3]? = some (.inl (.int, 6001, .inl (fun _ => 0))) := ab_other e39 (by omega) c36
  have fr43 : ab_fr (fun j => j = x + 1 ∨ j = x+1+2 ∨ j = x+1+3 ∨ j = x+1+4 ∨ j = x+1+5) h h38 := ab_fr_set fr37 e39 (by first | (show _ ∧ _; omega) | (show _ ∨ _; omega) | (show _ = _; omega) | (show _ ≤ _; omega))
  clear c34 c35 c36 fr37 e39
  try clear h31
  refine ab_aload_n d_Lexer_begin_108 rfl rfl rfl ?_
  refine ab_aload_n d_Lexer_begin_109 rfl rfl rfl ?_
  refine ab_get (f := 6) d_Lexer_begin_110 c40 rfl (by decide) (k1 108 rfl rfl) rfl ?_
  refine ab_iconst (v := 0) d_Lexer_begin_113 (by decide) ?_
  refine ab_iald d_Lexer_begin_114 tI c41 (in_of (by decide) (by decide) (by decide)) ?_
  refine ab_topi (fun x44 ex44 => ?_)
  obtain rfl : x44 = 0 := ex44.trans rfl
  clear ex44
  refine ab_put (f := 2) d_Lexer_begin_115 c40 rfl (by decide) (k1 100 rfl rfl) rfl rfl (fun _ => rfl) (fun _ => rfl) (Nat.le_of_ble_eq_true rfl) ?_
  show ab_V _ _ _ _ _ _ _ 118 [some (.ref (x + 1)), some (.int 1), some (.int 0), some (.int 0)] [] (h38.set (x+1) (.inr (1, [.ref (x + 1 + 1), .int 0, .int 0, .int 0, .int 0, .int 0, .ref (x + 1 + 2), .ref (x + 1 + 3), .ref (x + 1 + 4), .ref (x + 1 + 5), .int 1, .int 0, .ref (x + 1 + 6)])))
  refine ab_gen (fun h45 e46 => ?_)
  have c47 : h45[x+1]? = some (.inr (1, [.ref (x + 1 + 1), .int 0, .int 0, .int 0, .int 0, .int 0, .ref (x + 1 + 2), .ref (x + 1 + 3), .ref (x + 1 + 4), .ref (x + 1 + 5), .int 1, .int 0, .ref (x + 1 + 6)])) := ab_self e46 c40
  have c48 : h45[x+1+2]? = some (.inl (.int, 6001, .inl (fun _ => 0))) := ab_other e46 (by omega) c41
  have c49 : h45[x+1+3]? = some (.inl (.int, 6001, .inl (fun _ => 0))) := ab_other e46 (by omega) c42
  have fr50 : ab_fr (fun j => j = x + 1 ∨ j = x+1+2 ∨ j = x+1+3 ∨ j = x+1+4 ∨ j = x+1+5) h h45 := ab_fr_set fr43 e46 (by first | (show _ ∧ _; omega) | (show _ ∨ _; omega) | (show _ = _; omega) | (show _ ≤ _; omega))
  clear c40 c41 c42 fr43 e46
  try clear h38
  refine ab_aload_n d_Lexer_begin_118 rfl rfl rfl ?_
  refine ab_aload_n d_Lexer_begin_119 rfl rfl rfl ?_
  refine ab_get (f := 7) d_Lexer_begin_120 c47 rfl (by decide) (k1 109 rfl rfl) rfl ?_
  refine ab_iconst (v := 0) d_Lexer_begin_123 (by decide) ?_
  refine ab_iald d_Lexer_begin_124 tI c49 (in_of (by decide) (by decide) (by decide)) ?_
  refine ab_topi (fun x51 ex51 => ?_)
  obtain rfl : x51 = 0 := ex51.trans rfl
  clear ex51
  refine ab_put (f := 3) d_Lexer_begin_125 c47 rfl (by decide) (k1 102 rfl rfl) rfl rfl (fun _ => rfl) (fun _ => rfl) (Nat.le_of_ble_eq_true rfl) ?_
  show ab_V _ _ _ _ _ _ _ 128 [some (.ref (x + 1)), some (.int 1), some (.int 0), some (.int 0)] [] (h45.set (x+1) (.inr (1, [.ref (x + 1 + 1), .int 0, .int 0, .int 0, .int 0, .int 0, .ref (x + 1 + 2), .ref (x + 1 + 3), .ref (x + 1 + 4), .ref (x + 1 + 5), .int 1, .int 0, .ref (x + 1 + 6)])))
  refine ab_gen (fun h52 e53 => ?_)
  have c54 : h52[x+1]? = some (.inr (1, [.ref (x + 1 + 1), .int 0, .int 0, .int 0, .int 0, .int 0, .ref (x + 1 + 2), .ref (x + 1 + 3), .ref (x + 1 + 4), .ref (x + 1 + 5), .int 1, .int 0, .ref (x + 1 + 6)])) := ab_self e53 c47
  have c55 : h52[x+1+2]? = some (.inl (.int, 6001, .inl (fun _ => 0))) := ab_other e53 (by omega) c48
  have c56 : h52[x+1+3]? = some (.inl (.int, 6001, .inl (fun _ => 0))) := ab_other e53 (by omega) c49
  have fr57 : ab_fr (fun j => j = x + 1 ∨ j = x+1+2 ∨ j = x+1+3 ∨ j = x+1+4 ∨ j = x+1+5) h h52 := ab_fr_set fr50 e53 (by first | (show _ ∧ _; omega) | (show _ ∨ _; omega) | (show _ = _; omega) | (show _ ≤ _; omega))
  clear c47 c48 c49 fr50 e53
  try clear h45
  exact ab_vret d_Lexer_begin_128 rfl (Nat.le_refl _) (Nat.le_refl _) (by exact ⟨rfl, c54, fr57⟩)
set_option maxRecDepth 20000 in
set_option maxHeartbeats 2000000 in
theorem r_readAll {h : List ab_E}  {r1 r2 : Value} {k8f : Nat → Int32} {k9f : Nat → Int32} {yf : Nat → Int32} {zf : Nat → Int32} {x : Nat}  (ro : h[x + 8]? = some (.inr (5, [.ref (x + 1), r1, r2]))) (lo : h[x + 1]? = some (.inr (1, [.ref (x + 1 + 1), .int 0, .int 0, .int 0, .int 0, .int 0, .ref (x + 1 + 2), .ref (x + 1 + 3), .ref (x + 1 + 4), .ref (x + 1 + 5), .int 0, .int 0, .ref (x + 1 + 6)]))) (k6a : h[x + 1 + 2]? = some (.inl (.int, 6001, .inl (fun _ => 0)))) (k7a : h[x + 1 + 3]? = some (.inl (.int, 6001, .inl (fun _ => 0)))) (k8a : h[x + 1 + 4]? = some (.inl (.int, 6001, .inl k8f))) (k9a : h[x + 1 + 5]? = some (.inl (.boolean, 6001, .inl k9f))) (go : h[x + 325]? = some (.inr (4, [.ref (x + 325 + 1), .int 0, .ref (x + 325 + 70), .ref (x + 325 + 138), .int 0, .ref (x + 325 + 182), .ref (x + 325 + 183), .int 0, .ref (x + 325 + 184), .ref (x + 325 + 185), .ref (x + 325 + 186), .ref (x + 325 + 187), .ref (x + 325 + 188), .ref (x + 325 + 189), .ref (x + 325 + 190), .int 0, .ref (x + 325 + 191), .int 0]))) (co : h[x + 325 + 70]? = some (.inr (3, [.ref (x + 325 + 70 + 1), .ref (x + 325 + 70 + 18), .ref (x + 325 + 70 + 67), .int 0]))) (eo : h[x + 325 + 138]? = some (.inr (3, [.ref (x + 325 + 138 + 1), .ref (x + 325 + 138 + 10), .ref (x + 325 + 138 + 43), .int 0]))) (ya : h[x + 325 + 70 + 67]? = some (.inl (.int, 17, .inl yf))) (za : h[x + 325 + 138 + 43]? = some (.inl (.int, 9, .inl zf)))  : ab_M y_Reader_readAll { frames := 2, cells := 0, slots := 0, locals := 80 } [.ref (x + 8), .ref (x + 325)] h (ab_A (some (.int (1))) (fun h1 => ∃ (y1 z1 : Nat → Int32), h1[x + 1]? = some (.inr (1, [.ref (x + 1 + 1), .int 0, .int 0, .int 0, .int 0, .int 0, .ref (x + 1 + 2), .ref (x + 1 + 3), .ref (x + 1 + 4), .ref (x + 1 + 5), .int 1, .int 0, .ref (x + 1 + 6)])) ∧ h1[x + 325]? = some (.inr (4, [.ref (x + 325 + 1), .int 0, .ref (x + 325 + 70), .ref (x + 325 + 138), .int 0, .ref (x + 325 + 182), .ref (x + 325 + 183), .int 0, .ref (x + 325 + 184), .ref (x + 325 + 185), .ref (x + 325 + 186), .ref (x + 325 + 187), .ref (x + 325 + 188), .ref (x + 325 + 189), .ref (x + 325 + 190), .int 0, .ref (x + 325 + 191), .int 0])) ∧ h1[x + 325 + 70]? = some (.inr (3, [.ref (x + 325 + 70 + 1), .ref (x + 325 + 70 + 18), .ref (x + 325 + 70 + 67), .int 0])) ∧ h1[x + 325 + 138]? = some (.inr (3, [.ref (x + 325 + 138 + 1), .ref (x + 325 + 138 + 10), .ref (x + 325 + 138 + 43), .int 0])) ∧ h1[x + 325 + 70 + 67]? = some (.inl (.int, 17, .inl y1)) ∧ h1[x + 325 + 138 + 43]? = some (.inl (.int, 9, .inl z1)) ∧ ab_fr (fun j => j = x + 8 ∨ j = x + 1 ∨ j = x+1+2 ∨ j = x+1+3 ∨ j = x+1+4 ∨ j = x+1+5 ∨ j = x + 325 ∨ j = x + 325 + 70 ∨ j = x + 325 + 138 ∨ j = x + 325 + 70 + 67 ∨ j = x + 325 + 138 + 43) h h1)) := by
  refine ab_of2 (lv := [some (.ref (x + 8)), some (.ref (x + 325)), none, none]) 2 rfl rfl (Nat.le_of_ble_eq_true rfl) ?_
  refine ab_aload_n d_Reader_readAll_0 rfl rfl rfl ?_
  refine ab_aload_n d_Reader_readAll_1 rfl rfl rfl ?_
  refine ab_put (f := 2) d_Reader_readAll_2 ro rfl (by decide) (k1 181 rfl rfl) rfl rfl (fun _ => rfl) (fun _ => rfl) (Nat.le_of_ble_eq_true rfl) ?_
  show ab_V _ _ _ _ _ _ _ 5 [some (.ref (x + 8)), some (.ref (x + 325)), none, none] [] (h.set (x+8) (.inr (5, [.ref (x + 1), r1, .ref (x + 325)])))
  refine ab_gen (fun h1 e2 => ?_)
  have c3 : h1[x+8]? = some (.inr (5, [.ref (x + 1), r1, .ref (x + 325)])) := ab_self e2 ro
  have c4 : h1[x+1]? = some (.inr (1, [.ref (x + 1 + 1), .int 0, .int 0, .int 0, .int 0, .int 0, .ref (x + 1 + 2), .ref (x + 1 + 3), .ref (x + 1 + 4), .ref (x + 1 + 5), .int 0, .int 0, .ref (x + 1 + 6)])) := ab_other e2 (by omega) lo
  have c5 : h1[x+1+2]? = some (.inl (.int, 6001, .inl (fun _ => 0))) := ab_other e2 (by omega) k6a
  have c6 : h1[x+1+3]? = some (.inl (.int, 6001, .inl (fun _ => 0))) := ab_other e2 (by omega) k7a
  have c7 : h1[x+1+4]? = some (.inl (.int, 6001, .inl k8f)) := ab_other e2 (by omega) k8a
  have c8 : h1[x+1+5]? = some (.inl (.boolean, 6001, .inl k9f)) := ab_other e2 (by omega) k9a
  have c9 : h1[x+325]? = some (.inr (4, [.ref (x + 325 + 1), .int 0, .ref (x + 325 + 70), .ref (x + 325 + 138), .int 0, .ref (x + 325 + 182), .ref (x + 325 + 183), .int 0, .ref (x + 325 + 184), .ref (x + 325 + 185), .ref (x + 325 + 186), .ref (x + 325 + 187), .ref (x + 325 + 188), .ref (x + 325 + 189), .ref (x + 325 + 190), .int 0, .ref (x + 325 + 191), .int 0])) := ab_other e2 (by omega) go
  have c10 : h1[x+325+70]? = some (.inr (3, [.ref (x + 325 + 70 + 1), .ref (x + 325 + 70 + 18), .ref (x + 325 + 70 + 67), .int 0])) := ab_other e2 (by omega) co
  have c11 : h1[x+325+138]? = some (.inr (3, [.ref (x + 325 + 138 + 1), .ref (x + 325 + 138 + 10), .ref (x + 325 + 138 + 43), .int 0])) := ab_other e2 (by omega) eo
  have c12 : h1[x+325+70+67]? = some (.inl (.int, 17, .inl yf)) := ab_other e2 (by omega) ya
  have c13 : h1[x+325+138+43]? = some (.inl (.int, 9, .inl zf)) := ab_other e2 (by omega) za
  have fr14 : ab_fr (fun j => j = x + 8 ∨ j = x + 1 ∨ j = x+1+2 ∨ j = x+1+3 ∨ j = x+1+4 ∨ j = x+1+5 ∨ j = x + 325 ∨ j = x + 325 + 70 ∨ j = x + 325 + 138 ∨ j = x + 325 + 70 + 67 ∨ j = x + 325 + 138 + 43) h h1 := ab_fr_set (ab_fr_rf _ _) e2 (by first | (show _ ∧ _; omega) | (show _ ∨ _; omega) | (show _ = _; omega) | (show _ ≤ _; omega))
  clear e2
  refine ab_aload_n d_Reader_readAll_5 rfl rfl rfl ?_
  refine ab_get (f := 2) d_Reader_readAll_6 c3 rfl (by decide) (k1 181 rfl rfl) rfl ?_
  refine ab_callV_v (As := []) (rest := []) d_Reader_readAll_9 (r_Program_clear c9 c10 c11 c12 c13) (ab_mkC s_Program_clear (Nat.le_of_ble_eq_true rfl) (Nat.le_of_ble_eq_true rfl) (by decide) (by decide)) (k3 210 rfl rfl) i_Program_clear v_Program_clear c9 rfl rfl (Nat.le_of_ble_eq_true rfl) (fun h15 q16 => ?_)
  obtain ⟨y23, y24, c18, c19, c20, c21, c22, f17⟩ := q16
  have c25 : h15[x+8]? = some (.inr (5, [.ref (x + 1), r1, .ref (x + 325)])) := ab_fr_at f17 c3 (by omega)
  have c26 : h15[x+1]? = some (.inr (1, [.ref (x + 1 + 1), .int 0, .int 0, .int 0, .int 0, .int 0, .ref (x + 1 + 2), .ref (x + 1 + 3), .ref (x + 1 + 4), .ref (x + 1 + 5), .int 0, .int 0, .ref (x + 1 + 6)])) := ab_fr_at f17 c4 (by omega)
  have c27 : h15[x+1+2]? = some (.inl (.int, 6001, .inl (fun _ => 0))) := ab_fr_at f17 c5 (by omega)
  have c28 : h15[x+1+3]? = some (.inl (.int, 6001, .inl (fun _ => 0))) := ab_fr_at f17 c6 (by omega)
  have c29 : h15[x+1+4]? = some (.inl (.int, 6001, .inl k8f)) := ab_fr_at f17 c7 (by omega)
  have c30 : h15[x+1+5]? = some (.inl (.boolean, 6001, .inl k9f)) := ab_fr_at f17 c8 (by omega)
  have fr31 : ab_fr (fun j => j = x + 8 ∨ j = x + 1 ∨ j = x+1+2 ∨ j = x+1+3 ∨ j = x+1+4 ∨ j = x+1+5 ∨ j = x + 325 ∨ j = x + 325 + 70 ∨ j = x + 325 + 138 ∨ j = x + 325 + 70 + 67 ∨ j = x + 325 + 138 + 43) h h15 := ab_fr_tr fr14 (ab_fr_mono f17 (by intro i hi; first | omega | (dsimp only at *; omega)))
  clear c3 c4 c5 c6 c7 c8 c9 c10 c11 c12 c13 f17 fr14
  try clear h1
  replace c18 : h15[x+325]? = some (.inr (4, [.ref (x + 325 + 1), .int 0, .ref (x + 325 + 70), .ref (x + 325 + 138), .int 0, .ref (x + 325 + 182), .ref (x + 325 + 183), .int 0, .ref (x + 325 + 184), .ref (x + 325 + 185), .ref (x + 325 + 186), .ref (x + 325 + 187), .ref (x + 325 + 188), .ref (x + 325 + 189), .ref (x + 325 + 190), .int 0, .ref (x + 325 + 191), .int 0])) := c18
  replace c19 : h15[x+325+70]? = some (.inr (3, [.ref (x + 325 + 70 + 1), .ref (x + 325 + 70 + 18), .ref (x + 325 + 70 + 67), .int 0])) := c19
  replace c20 : h15[x+325+138]? = some (.inr (3, [.ref (x + 325 + 138 + 1), .ref (x + 325 + 138 + 10), .ref (x + 325 + 138 + 43), .int 0])) := c20
  replace c21 : h15[x+325+70+67]? = some (.inl (.int, 17, .inl y23)) := c21
  replace c22 : h15[x+325+138+43]? = some (.inl (.int, 9, .inl y24)) := c22
  refine ab_aload_n d_Reader_readAll_12 rfl rfl rfl ?_
  refine ab_get (f := 0) d_Reader_readAll_13 c25 rfl (by decide) (k1 179 rfl rfl) rfl ?_
  refine ab_callV_v (As := []) (rest := []) d_Reader_readAll_16 (r_Lexer_begin c26 c27 c28 c29 c30) (ab_mkC s_Lexer_begin (Nat.le_of_ble_eq_true rfl) (Nat.le_of_ble_eq_true rfl) (by decide) (by decide)) (k3 218 rfl rfl) i_Lexer_begin v_Lexer_begin c26 rfl rfl (Nat.le_of_ble_eq_true rfl) (fun h32 q33 => ?_)
  obtain ⟨c35, f34⟩ := q33
  have c36 : h32[x+8]? = some (.inr (5, [.ref (x + 1), r1, .ref (x + 325)])) := ab_fr_at f34 c25 (by omega)
  have c37 : h32[x+325]? = some (.inr (4, [.ref (x + 325 + 1), .int 0, .ref (x + 325 + 70), .ref (x + 325 + 138), .int 0, .ref (x + 325 + 182), .ref (x + 325 + 183), .int 0, .ref (x + 325 + 184), .ref (x + 325 + 185), .ref (x + 325 + 186), .ref (x + 325 + 187), .ref (x + 325 + 188), .ref (x + 325 + 189), .ref (x + 325 + 190), .int 0, .ref (x + 325 + 191), .int 0])) := ab_fr_at f34 c18 (by omega)
  have c38 : h32[x+325+70]? = some (.inr (3, [.ref (x + 325 + 70 + 1), .ref (x + 325 + 70 + 18), .ref (x + 325 + 70 + 67), .int 0])) := ab_fr_at f34 c19 (by omega)
  have c39 : h32[x+325+138]? = some (.inr (3, [.ref (x + 325 + 138 + 1), .ref (x + 325 + 138 + 10), .ref (x + 325 + 138 + 43), .int 0])) := ab_fr_at f34 c20 (by omega)
  have c40 : h32[x+325+70+67]? = some (.inl (.int, 17, .inl y23)) := ab_fr_at f34 c21 (by omega)
  have c41 : h32[x+325+138+43]? = some (.inl (.int, 9, .inl y24)) := ab_fr_at f34 c22 (by omega)
  have fr42 : ab_fr (fun j => j = x + 8 ∨ j = x + 1 ∨ j = x+1+2 ∨ j = x+1+3 ∨ j = x+1+4 ∨ j = x+1+5 ∨ j = x + 325 ∨ j = x + 325 + 70 ∨ j = x + 325 + 138 ∨ j = x + 325 + 70 + 67 ∨ j = x + 325 + 138 + 43) h h32 := ab_fr_tr fr31 (ab_fr_mono f34 (by intro i hi; first | omega | (dsimp only at *; omega)))
  clear c25 c26 c18 c19 c20 c21 c22 f34 fr31
  try clear h15
  replace c35 : h32[x+1]? = some (.inr (1, [.ref (x + 1 + 1), .int 0, .int 0, .int 0, .int 0, .int 0, .ref (x + 1 + 2), .ref (x + 1 + 3), .ref (x + 1 + 4), .ref (x + 1 + 5), .int 1, .int 0, .ref (x + 1 + 6)])) := c35
  refine ab_iconst (v := 1) d_Reader_readAll_19 (by decide) ?_
  refine ab_istore_n (lv' := [some (.ref (x + 8)), some (.ref (x + 325)), some (.int 1), none]) d_Reader_readAll_20 rfl (by decide) rfl ?_
  refine ab_iconst (v := 0) d_Reader_readAll_21 (by decide) ?_
  refine ab_istore_n (lv' := [some (.ref (x + 8)), some (.ref (x + 325)), some (.int 1), some (.int 0)]) d_Reader_readAll_22 rfl (by decide) rfl ?_
  refine ab_iload_n d_Reader_readAll_23 rfl rfl ?_
  refine ab_sipush (v := 6000) d_Reader_readAll_24 (by decide) ?_
  refine ab_icmp_gt (tgt := 152) d_Reader_readAll_27 (by decide) (fun q43 => by exact absurd q43 (by decide)) (fun q43 => ?_)
  refine ab_aload_n d_Reader_readAll_30 rfl rfl rfl ?_
  refine ab_get (f := 0) d_Reader_readAll_31 c36 rfl (by decide) (k1 179 rfl rfl) rfl ?_
  refine ab_get (f := 2) d_Reader_readAll_34 c35 rfl (by decide) (k1 98 rfl rfl) rfl ?_
  refine ab_if_eq (tgt := 152) d_Reader_readAll_37 (by decide) (fun q44 => ?_) (fun q44 => by exact absurd (by decide) q44)
  refine ab_goto (tgt := 158) d_Reader_readAll_152 (by decide) ?_
  refine ab_aload_n d_Reader_readAll_158 rfl rfl rfl ?_
  refine ab_get (f := 0) d_Reader_readAll_159 c36 rfl (by decide) (k1 179 rfl rfl) rfl ?_
  refine ab_iconst (v := 0) d_Reader_readAll_162 (by decide) ?_
  refine ab_put (f := 1) d_Reader_readAll_163 c35 rfl (by decide) (k1 96 rfl rfl) rfl rfl (fun _ => rfl) (fun _ => rfl) (Nat.le_of_ble_eq_true rfl) ?_
  show ab_V _ _ _ _ _ _ _ 166 [some (.ref (x + 8)), some (.ref (x + 325)), some (.int 1), some (.int 0)] [] (h32.set (x+1) (.inr (1, [.ref (x + 1 + 1), .int 0, .int 0, .int 0, .int 0, .int 0, .ref (x + 1 + 2), .ref (x + 1 + 3), .ref (x + 1 + 4), .ref (x + 1 + 5), .int 1, .int 0, .ref (x + 1 + 6)])))
  refine ab_gen (fun h45 e46 => ?_)
  have c47 : h45[x+8]? = some (.inr (5, [.ref (x + 1), r1, .ref (x + 325)])) := ab_other e46 (by omega) c36
  have c48 : h45[x+325]? = some (.inr (4, [.ref (x + 325 + 1), .int 0, .ref (x + 325 + 70), .ref (x + 325 + 138), .int 0, .ref (x + 325 + 182), .ref (x + 325 + 183), .int 0, .ref (x + 325 + 184), .ref (x + 325 + 185), .ref (x + 325 + 186), .ref (x + 325 + 187), .ref (x + 325 + 188), .ref (x + 325 + 189), .ref (x + 325 + 190), .int 0, .ref (x + 325 + 191), .int 0])) := ab_other e46 (by omega) c37
  have c49 : h45[x+325+70]? = some (.inr (3, [.ref (x + 325 + 70 + 1), .ref (x + 325 + 70 + 18), .ref (x + 325 + 70 + 67), .int 0])) := ab_other e46 (by omega) c38
  have c50 : h45[x+325+138]? = some (.inr (3, [.ref (x + 325 + 138 + 1), .ref (x + 325 + 138 + 10), .ref (x + 325 + 138 + 43), .int 0])) := ab_other e46 (by omega) c39
  have c51 : h45[x+325+70+67]? = some (.inl (.int, 17, .inl y23)) := ab_other e46 (by omega) c40
  have c52 : h45[x+325+138+43]? = some (.inl (.int, 9, .inl y24)) := ab_other e46 (by omega) c41
  have c53 : h45[x+1]? = some (.inr (1, [.ref (x + 1 + 1), .int 0, .int 0, .int 0, .int 0, .int 0, .ref (x + 1 + 2), .ref (x + 1 + 3), .ref (x + 1 + 4), .ref (x + 1 + 5), .int 1, .int 0, .ref (x + 1 + 6)])) := ab_self e46 c35
  have fr54 : ab_fr (fun j => j = x + 8 ∨ j = x + 1 ∨ j = x+1+2 ∨ j = x+1+3 ∨ j = x+1+4 ∨ j = x+1+5 ∨ j = x + 325 ∨ j = x + 325 + 70 ∨ j = x + 325 + 138 ∨ j = x + 325 + 70 + 67 ∨ j = x + 325 + 138 + 43) h h45 := ab_fr_set fr42 e46 (by first | (show _ ∧ _; omega) | (show _ ∨ _; omega) | (show _ = _; omega) | (show _ ≤ _; omega))
  clear c36 c37 c38 c39 c40 c41 c35 fr42 e46
  try clear h32
  refine ab_iload_n d_Reader_readAll_166 rfl rfl ?_
  exact ab_zret d_Reader_readAll_167 rfl rfl (Nat.le_refl _) (Nat.le_refl _) (by exact ⟨rfl, _, _, c53, c48, c49, c50, c51, c52, fr54⟩)
set_option maxRecDepth 20000 in
set_option maxHeartbeats 2000000 in
theorem r_exch {h : List ab_E}  {p0 p1 p2 p3 p6 p7 p8 : Value} {x pr sp : Nat}  (po : h[x]? = some (.inr (0, [p0, p1, p2, p3, .ref pr, .ref sp, p6, p7, p8])))  : ab_M y_W_exchangePrograms { frames := 0, cells := 0, slots := 0, locals := 0 } [.ref x] h (ab_A none (fun h1 => h1[x]? = some (.inr (0, [p0, p1, p2, p3, .ref sp, .ref pr, .int 1, p7, p8])) ∧ ab_fr (fun j => j = x) h h1)) := by
  refine ab_of2 (lv := [some (.ref x), none]) 1 rfl rfl (Nat.le_of_ble_eq_true rfl) ?_
  refine ab_aload_n d_W_exchangePrograms_0 rfl rfl rfl ?_
  refine ab_get (f := 5) d_W_exchangePrograms_1 po rfl (by decide) (k3 162 rfl rfl) rfl ?_
  refine ab_astore_n (lv' := [some (.ref x), some (.ref sp)]) d_W_exchangePrograms_4 rfl (by decide) rfl rfl ?_
  refine ab_aload_n d_W_exchangePrograms_5 rfl rfl rfl ?_
  refine ab_aload_n d_W_exchangePrograms_6 rfl rfl rfl ?_
  refine ab_get (f := 4) d_W_exchangePrograms_7 po rfl (by decide) (k3 161 rfl rfl) rfl ?_
  refine ab_put (f := 5) d_W_exchangePrograms_10 po rfl (by decide) (k3 162 rfl rfl) rfl rfl (fun _ => rfl) (fun _ => rfl) (Nat.le_of_ble_eq_true rfl) ?_
  show ab_V _ _ _ _ _ _ _ 13 [some (.ref x), some (.ref sp)] [] (h.set x (.inr (0, [p0, p1, p2, p3, .ref pr, .ref pr, p6, p7, p8])))
  refine ab_gen (fun h1 e2 => ?_)
  have c3 : h1[x]? = some (.inr (0, [p0, p1, p2, p3, .ref pr, .ref pr, p6, p7, p8])) := ab_self e2 po
  have fr4 : ab_fr (fun j => j = x) h h1 := ab_fr_set (ab_fr_rf _ _) e2 (by first | (show _ ∧ _; omega) | (show _ ∨ _; omega) | (show _ = _; omega) | (show _ ≤ _; omega))
  clear e2
  refine ab_aload_n d_W_exchangePrograms_13 rfl rfl rfl ?_
  refine ab_aload_n d_W_exchangePrograms_14 rfl rfl rfl ?_
  refine ab_put (f := 4) d_W_exchangePrograms_15 c3 rfl (by decide) (k3 161 rfl rfl) rfl rfl (fun _ => rfl) (fun _ => rfl) (Nat.le_of_ble_eq_true rfl) ?_
  show ab_V _ _ _ _ _ _ _ 18 [some (.ref x), some (.ref sp)] [] (h1.set x (.inr (0, [p0, p1, p2, p3, .ref sp, .ref pr, p6, p7, p8])))
  refine ab_gen (fun h5 e6 => ?_)
  have c7 : h5[x]? = some (.inr (0, [p0, p1, p2, p3, .ref sp, .ref pr, p6, p7, p8])) := ab_self e6 c3
  have fr8 : ab_fr (fun j => j = x) h h5 := ab_fr_set fr4 e6 (by first | (show _ ∧ _; omega) | (show _ ∨ _; omega) | (show _ = _; omega) | (show _ ≤ _; omega))
  clear c3 fr4 e6
  try clear h1
  refine ab_aload_n d_W_exchangePrograms_18 rfl rfl rfl ?_
  refine ab_iconst (v := 1) d_W_exchangePrograms_19 (by decide) ?_
  refine ab_put (f := 6) d_W_exchangePrograms_20 c7 rfl (by decide) (k3 163 rfl rfl) rfl rfl (fun _ => rfl) (fun _ => rfl) (Nat.le_of_ble_eq_true rfl) ?_
  show ab_V _ _ _ _ _ _ _ 23 [some (.ref x), some (.ref sp)] [] (h5.set x (.inr (0, [p0, p1, p2, p3, .ref sp, .ref pr, .int 1, p7, p8])))
  refine ab_gen (fun h9 e10 => ?_)
  have c11 : h9[x]? = some (.inr (0, [p0, p1, p2, p3, .ref sp, .ref pr, .int 1, p7, p8])) := ab_self e10 c7
  have fr12 : ab_fr (fun j => j = x) h h9 := ab_fr_set fr8 e10 (by first | (show _ ∧ _; omega) | (show _ ∨ _; omega) | (show _ = _; omega) | (show _ ≤ _; omega))
  clear c7 fr8 e10
  try clear h5
  exact ab_vret d_W_exchangePrograms_23 rfl (Nat.le_refl _) (Nat.le_refl _) (by exact ⟨rfl, c11, fr12⟩)
set_option maxRecDepth 20000 in
set_option maxHeartbeats 2000000 in
theorem r_total {h : List ab_E}  {p0 p1 : Value} {qf : Nat → Int32} {x : Nat}  (po : h[x + 325 + 70]? = some (.inr (3, [p0, p1, .ref (x + 325 + 70 + 67), .int 0]))) (qa : h[x + 325 + 70 + 67]? = some (.inl (.int, 17, .inl qf)))  : ab_M y_Shapes_total { frames := 0, cells := 0, slots := 0, locals := 0 } [.ref (x + 325 + 70)] h (ab_A (some (.int (qf (0 : Int32).toNatClampNeg))) (fun h1 => h = h1)) := by
  refine ab_of2 (lv := [some (.ref (x + 325 + 70))]) 0 rfl rfl (Nat.le_of_ble_eq_true rfl) ?_
  refine ab_aload_n d_Shapes_total_0 rfl rfl rfl ?_
  refine ab_get (f := 2) d_Shapes_total_1 po rfl (by decide) (k3 32 rfl rfl) rfl ?_
  refine ab_aload_n d_Shapes_total_4 rfl rfl rfl ?_
  refine ab_get (f := 3) d_Shapes_total_5 po rfl (by decide) (k3 39 rfl rfl) rfl ?_
  refine ab_iald d_Shapes_total_8 tI qa (in_of (by decide) (by decide) (by decide)) ?_
  exact ab_iret d_Shapes_total_9 rfl (Nat.le_refl _) (Nat.le_refl _) (by exact ⟨rfl, rfl⟩)
set_option maxRecDepth 20000 in
set_option maxHeartbeats 2000000 in
theorem l_fgi {Po : Outcome → List ab_E → Prop} {mc ms cells slots : Nat} {pl1 pl2 pl3 pl4 pl5 pl6 pl7 pl9 pl11 pl12 pl13 : Value} {x : Nat}  (hcl : cells ≤ ({ frames := 1, cells := 0, slots := 0, locals := 40 } : Room).cells) (hsl : slots ≤ ({ frames := 1, cells := 0, slots := 0, locals := 40 } : Room).slots) : ∀ (n i : Nat) (h : List ab_E) (cf : Nat → Int32), i + n = 256 → h[x + 11]? = some (.inr (10, [.ref (x + 11 + 1), pl1, pl2, pl3, pl4, pl5, pl6, pl7, .ref (x + 11 + 114), pl9, .ref (x + 11 + 116), pl11, pl12, pl13])) → h[x + 11 + 114]? = some (.inl (.boolean, 256, .inl cf)) → (∀ (h1 : List ab_E) (cf1 : Nat → Int32), h1[x + 11]? = some (.inr (10, [.ref (x + 11 + 1), pl1, pl2, pl3, pl4, pl5, pl6, pl7, .ref (x + 11 + 114), pl9, .ref (x + 11 + 116), pl11, pl12, pl13])) → h1[x + 11 + 114]? = some (.inl (.boolean, 256, .inl cf1)) → ab_fr (fun j => j = x+11+114) h h1 → ab_V y_Play_forgetInputs { frames := 1, cells := 0, slots := 0, locals := 40 } Po mc ms cells slots 35 [some (.ref (x + 11)), some (.int (nI 256))] [] h1) →
    ab_V y_Play_forgetInputs { frames := 1, cells := 0, slots := 0, locals := 40 } Po mc ms cells slots 13 [some (.ref (x + 11)), some (.int (nI i))] [] h := by
  intro n
  induction n with
  | zero =>
    intro i h cf hi plo ca hk
    refine ab_iload_n d_Play_forgetInputs_13 rfl rfl ?_
    refine ab_aload_n d_Play_forgetInputs_14 rfl rfl rfl ?_
    refine ab_get (f := 8) d_Play_forgetInputs_15 plo rfl (by decide) (k2 144 rfl rfl) rfl ?_
    refine ab_alen (v := 256) d_Play_forgetInputs_18 tZ ca (show Int32.ofNat 256 = 256 by decide) ?_
    refine ab_icmp_ge (tgt := 35) d_Play_forgetInputs_19 (by decide) (fun q1 => ?_) (fun q1 => ?_)
    · have hiN : i = 256 := (by omega)
      subst hiN
      exact hk h cf plo ca (ab_fr_rf _ _)
    · exact absurd (nI_le (a := 256) (b := i) (by omega) (by omega)) q1
  | succ n ih =>
    intro i h cf hi plo ca hk
    refine ab_iload_n d_Play_forgetInputs_13 rfl rfl ?_
    refine ab_aload_n d_Play_forgetInputs_14 rfl rfl rfl ?_
    refine ab_get (f := 8) d_Play_forgetInputs_15 plo rfl (by decide) (k2 144 rfl rfl) rfl ?_
    refine ab_alen (v := 256) d_Play_forgetInputs_18 tZ ca (show Int32.ofNat 256 = 256 by decide) ?_
    refine ab_icmp_ge (tgt := 35) d_Play_forgetInputs_19 (by decide) (fun q1 => ?_) (fun q1 => ?_)
    · exact absurd ((nI_leI (a := 256) (b := i) (by omega) (by omega)).mp q1) (by omega)
    · refine ab_aload_n d_Play_forgetInputs_22 rfl rfl rfl ?_
      refine ab_get (f := 8) d_Play_forgetInputs_23 plo rfl (by decide) (k2 144 rfl rfl) rfl ?_
      refine ab_iload_n d_Play_forgetInputs_26 rfl rfl ?_
      refine ab_iconst (v := 0) d_Play_forgetInputs_27 (by decide) ?_
      refine ab_zast d_Play_forgetInputs_28 tZ ca (vp_in_nI (by omega) (by decide)) ?_
      refine ab_gen (fun h2 e3 => ?_)
      have c4 : h2[x+11]? = some (.inr (10, [.ref (x + 11 + 1), pl1, pl2, pl3, pl4, pl5, pl6, pl7, .ref (x + 11 + 114), pl9, .ref (x + 11 + 116), pl11, pl12, pl13])) := ab_other e3 (by omega) plo
      have c5 : h2[x+11+114]? = some (.inl (.boolean, 256, .inl (upd cf ((nI i)).toNatClampNeg (vp_nar .boolean 0)))) := ab_self e3 ca
      have fr6 : ab_fr (fun j => j = x+11+114) h h2 := ab_fr_set (ab_fr_rf _ _) e3 (by first | (show _ = _; omega) | (show _ ∨ _; omega))
      clear e3
      obtain ⟨y7, c8⟩ : ∃ f : Nat → Int32, h2[x+11+114]? = some (.inl (.boolean, 256, .inl f)) := ⟨_, c5⟩
      clear c5
      obtain ⟨x9, ex9⟩ : ∃ q : Int32, q = nI i + 1 := ⟨_, rfl⟩
      refine ab_iinc (v := x9) (lv' := [some (.ref (x + 11)), some (.int x9)]) d_Play_forgetInputs_29 rfl (by rw [ex9]; rfl) (by decide) rfl ?_
      refine ab_goto (tgt := 13) d_Play_forgetInputs_32 (by decide) ?_
      subst ex9
      rw [nI_1]
      refine ab_widen (cells' := cells) (slots' := slots) (by first | exact Nat.le_refl _ | (show _ ≤ _; omega)) (by first | exact Nat.le_refl _ | (show _ ≤ _; omega)) ?_
      exact ih (i + 1) h2 y7 (by omega) c4 c8 (fun h1 cf1 q0 q1 qf => hk h1 cf1 q0 q1 (ab_fr_tr fr6 qf))
set_option maxRecDepth 20000 in
set_option maxHeartbeats 2000000 in
theorem r_forgetInputs {h : List ab_E}  {pl1 pl2 pl3 pl4 pl5 pl6 pl7 pl9 pl11 pl12 pl13 : Value} {cf : Nat → Int32} {lf : Nat → Int32} {n1 n2 n3 n4 n5 n6 n7 n8 n9 n10 n11 n12 n13 n14 n15 : Value} {x : Nat}  (plo : h[x + 11]? = some (.inr (10, [.ref (x + 11 + 1), pl1, pl2, pl3, pl4, pl5, pl6, pl7, .ref (x + 11 + 114), pl9, .ref (x + 11 + 116), pl11, pl12, pl13]))) (ca : h[x + 11 + 114]? = some (.inl (.boolean, 256, .inl cf))) (la : h[x + 11 + 116]? = some (.inl (.int, 4, .inl lf))) (no : h[x + 11 + 1]? = some (.inr (7, [.int 0, n1, n2, n3, n4, n5, n6, n7, n8, n9, n10, n11, n12, n13, n14, n15])))  : ab_M y_Play_forgetInputs { frames := 1, cells := 0, slots := 0, locals := 40 } [.ref (x + 11)] h (ab_A none (fun h1 => ab_fr (in_Play0 (x + 11)) h h1)) := by
  refine ab_of2 (lv := [some (.ref (x + 11)), none]) 1 rfl rfl (Nat.le_of_ble_eq_true rfl) ?_
  refine ab_aload_n d_Play_forgetInputs_0 rfl rfl rfl ?_
  refine ab_aload_n d_Play_forgetInputs_1 rfl rfl rfl ?_
  refine ab_get (f := 0) d_Play_forgetInputs_2 plo rfl (by decide) (k2 130 rfl rfl) rfl ?_
  refine ab_get (f := 0) d_Play_forgetInputs_5 no rfl (by decide) (k1 205 rfl rfl) rfl ?_
  refine ab_put (f := 1) d_Play_forgetInputs_8 plo rfl (by decide) (k2 132 rfl rfl) rfl rfl (fun _ => rfl) (fun _ => rfl) (Nat.le_of_ble_eq_true rfl) ?_
  show ab_V _ _ _ _ _ _ _ 11 [some (.ref (x + 11)), none] [] (h.set (x+11) (.inr (10, [.ref (x + 11 + 1), .int 0, pl2, pl3, pl4, pl5, pl6, pl7, .ref (x + 11 + 114), pl9, .ref (x + 11 + 116), pl11, pl12, pl13])))
  refine ab_gen (fun h1 e2 => ?_)
  have c3 : h1[x+11]? = some (.inr (10, [.ref (x + 11 + 1), .int 0, pl2, pl3, pl4, pl5, pl6, pl7, .ref (x + 11 + 114), pl9, .ref (x + 11 + 116), pl11, pl12, pl13])) := ab_self e2 plo
  have c4 : h1[x+11+114]? = some (.inl (.boolean, 256, .inl cf)) := ab_other e2 (by omega) ca
  have c5 : h1[x+11+116]? = some (.inl (.int, 4, .inl lf)) := ab_other e2 (by omega) la
  have c6 : h1[x+11+1]? = some (.inr (7, [.int 0, n1, n2, n3, n4, n5, n6, n7, n8, n9, n10, n11, n12, n13, n14, n15])) := ab_other e2 (by omega) no
  have fr7 : ab_fr (in_Play0 (x + 11)) h h1 := ab_fr_set (ab_fr_rf _ _) e2 (by (show _ ∧ _; omega))
  clear e2
  refine ab_iconst (v := 0) d_Play_forgetInputs_11 (by decide) ?_
  refine ab_istore_n (lv' := [some (.ref (x + 11)), some (.int 0)]) d_Play_forgetInputs_12 rfl (by decide) rfl ?_
  refine l_fgi  (Nat.le_of_ble_eq_true rfl) (Nat.le_of_ble_eq_true rfl) 256 0 h1 cf (by omega) c3 c4 (fun h8 y9 c10 c11 f12 => ?_)
  have c13 : h8[x+11+116]? = some (.inl (.int, 4, .inl lf)) := ab_fr_at f12 c5 (by omega)
  have c14 : h8[x+11+1]? = some (.inr (7, [.int 0, n1, n2, n3, n4, n5, n6, n7, n8, n9, n10, n11, n12, n13, n14, n15])) := ab_fr_at f12 c6 (by omega)
  have fr15 : ab_fr (in_Play0 (x + 11)) h h8 := ab_fr_tr fr7 (ab_fr_mono f12 (by intro i hi; simp only [in_Play0] at * <;> omega))
  clear c3 c4 c5 c6 f12 fr7
  try clear h1
  refine ab_aload_n d_Play_forgetInputs_35 rfl rfl rfl ?_
  refine ab_get (f := 10) d_Play_forgetInputs_36 c10 rfl (by decide) (k2 146 rfl rfl) rfl ?_
  refine ab_iconst (v := 0) d_Play_forgetInputs_39 (by decide) ?_
  refine ab_callS_v (As := [.ref (x + 11 + 116), .int 0]) (rest := []) d_Play_forgetInputs_40 (c_Arr_fill (by decide) c13) (ab_mkC s_Arr_fill (Nat.le_of_ble_eq_true rfl) (Nat.le_of_ble_eq_true rfl) (by decide) (by decide)) (k6 86 rfl rfl) t_Arr_fill rfl (Nat.le_of_ble_eq_true rfl) (fun h16 e17 => ?_)
  have c18 : h16[x+11+116]? = some (.inl (.int, 4, .inl (sp_fill 0 4 0 lf))) := ab_self e17 c13
  have c19 : h16[x+11+1]? = some (.inr (7, [.int 0, n1, n2, n3, n4, n5, n6, n7, n8, n9, n10, n11, n12, n13, n14, n15])) := ab_other e17 (by omega) c14
  have c20 : h16[x+11]? = some (.inr (10, [.ref (x + 11 + 1), .int 0, pl2, pl3, pl4, pl5, pl6, pl7, .ref (x + 11 + 114), pl9, .ref (x + 11 + 116), pl11, pl12, pl13])) := ab_other e17 (by omega) c10
  have c21 : h16[x+11+114]? = some (.inl (.boolean, 256, .inl y9)) := ab_other e17 (by omega) c11
  have fr22 : ab_fr (in_Play0 (x + 11)) h h16 := ab_fr_set fr15 e17 (by (show _ ∧ _; omega))
  exact ab_vret d_Play_forgetInputs_43 rfl (Nat.le_refl _) (Nat.le_refl _) (by exact ⟨rfl, fr22⟩)
set_option maxRecDepth 20000 in
set_option maxHeartbeats 2000000 in
theorem r_Play_begin {h : List ab_E}  {pl1 pl2 pl3 pl4 pl5 pl6 pl7 pl9 pl11 pl12 pl13 : Value} {cf : Nat → Int32} {lf : Nat → Int32} {x : Nat} {e u : Int32} (hN : at_World h (x + 11 + 1) (fun _ => 0) a0_World) (plo : h[x + 11]? = some (.inr (10, [.ref (x + 11 + 1), pl1, pl2, pl3, pl4, pl5, pl6, pl7, .ref (x + 11 + 114), pl9, .ref (x + 11 + 116), pl11, pl12, pl13]))) (ca : h[x + 11 + 114]? = some (.inl (.boolean, 256, .inl cf))) (la : h[x + 11 + 116]? = some (.inl (.int, 4, .inl lf)))  : ab_M y_Play_begin { frames := 2, cells := 0, slots := 0, locals := 140 } [.ref (x + 11), .int e, .int u] h (ab_A none (fun h1 => ab_fr (in_Play0 (x + 11)) h h1)) := by
  have hN0 := hN; obtain ⟨gno, gn7, gn8, gn11, gn12, gn14⟩ := hN
  replace gno : h[x + 11 + 1]? = some (.inr (7, [.int 0, .int 0, .int 0, .int 0, .int 0, .int 0, .int 0, .ref (x + 11 + 1 + 1), .ref (x + 11 + 1 + 2), .int 0, .int 0, .ref (x + 11 + 1 + 3), .ref (x + 11 + 1 + 4), .int 0, .ref (x + 11 + 1 + 5), .int 0])) := gno
  replace gn7 : h[x + 11 + 1 + 1]? = some (.inl (.int, 256, .inl (fun _ => 0))) := gn7
  replace gn8 : h[x + 11 + 1 + 2]? = some (.inl (.int, 256, .inl (a0_World 8))) := gn8
  replace gn11 : h[x + 11 + 1 + 3]? = some (.inl (.int, 12288, .inl (fun _ => 0))) := gn11
  replace gn12 : h[x + 11 + 1 + 4]? = some (.inl (.int, 1792, .inl (fun _ => 0))) := gn12
  replace gn14 : h[x + 11 + 1 + 5]? = some (.inl (.int, 32, .inl (fun _ => 0))) := gn14
  refine ab_of2 (lv := [some (.ref (x + 11)), some (.int e), some (.int u)]) 0 rfl rfl (Nat.le_of_ble_eq_true rfl) ?_
  refine ab_aload_n d_Play_begin_0 rfl rfl rfl ?_
  refine ab_get (f := 0) d_Play_begin_1 plo rfl (by decide) (k2 130 rfl rfl) rfl ?_
  refine ab_iload_n d_Play_begin_4 rfl rfl ?_
  refine ab_iload_n d_Play_begin_5 rfl rfl ?_
  refine ab_callV_v (As := [.int e, .int u]) (rest := []) d_Play_begin_6 (c_World_clear (show at_World h (x + 11 + 1) (fun _ => 0) a0_World from ⟨gno, gn7, gn8, gn11, gn12, gn14⟩)) (ab_mkC s_World_clear (Nat.le_of_ble_eq_true rfl) (Nat.le_of_ble_eq_true rfl) (by decide) (by decide)) (k6 78 rfl rfl) i_World_clear v_World_clear gno rfl rfl (Nat.le_of_ble_eq_true rfl) (fun h1 q2 => ?_)
  obtain ⟨kf3, f4⟩ := q2
  have c5 : h1[x+11]? = some (.inr (10, [.ref (x + 11 + 1), pl1, pl2, pl3, pl4, pl5, pl6, pl7, .ref (x + 11 + 114), pl9, .ref (x + 11 + 116), pl11, pl12, pl13])) := ab_fr_at f4 plo (by simp only [in_World] <;> omega)
  have c6 : h1[x+11+114]? = some (.inl (.boolean, 256, .inl cf)) := ab_fr_at f4 ca (by simp only [in_World] <;> omega)
  have c7 : h1[x+11+116]? = some (.inl (.int, 4, .inl lf)) := ab_fr_at f4 la (by simp only [in_World] <;> omega)
  have fr8 : ab_fr (in_Play0 (x + 11)) h h1 := ab_fr_tr (ab_fr_rf _ _) (ab_fr_mono f4 (by intro i hi; simp only [in_Play0, in_World] at * <;> omega))
  clear f4
  obtain ⟨g9o, g97, g98, g911, g912, g914⟩ := kf3
  replace g9o : h1[x + 11 + 1]? = some (.inr (7, [.int 0, .int e, .int 0, .int 0, .int 0, .int 0, .int 0, .ref (x + 11 + 1 + 1), .ref (x + 11 + 1 + 2), .int 0, .int u, .ref (x + 11 + 1 + 3), .ref (x + 11 + 1 + 4), .int 0, .ref (x + 11 + 1 + 5), .int 0])) := g9o
  refine ab_aload_n d_Play_begin_9 rfl rfl rfl ?_
  refine ab_iconst (v := 0) d_Play_begin_10 (by decide) ?_
  refine ab_put (f := 5) d_Play_begin_11 c5 rfl (by decide) (k2 140 rfl rfl) rfl rfl (fun _ => rfl) (fun _ => rfl) (Nat.le_of_ble_eq_true rfl) ?_
  show ab_V _ _ _ _ _ _ _ 14 [some (.ref (x + 11)), some (.int e), some (.int u)] [] (h1.set (x+11) (.inr (10, [.ref (x + 11 + 1), pl1, pl2, pl3, pl4, .int 0, pl6, pl7, .ref (x + 11 + 114), pl9, .ref (x + 11 + 116), pl11, pl12, pl13])))
  refine ab_gen (fun h10 e11 => ?_)
  have c12 : h10[x+11]? = some (.inr (10, [.ref (x + 11 + 1), pl1, pl2, pl3, pl4, .int 0, pl6, pl7, .ref (x + 11 + 114), pl9, .ref (x + 11 + 116), pl11, pl12, pl13])) := ab_self e11 c5
  have c13 : h10[x+11+114]? = some (.inl (.boolean, 256, .inl cf)) := ab_other e11 (by omega) c6
  have c14 : h10[x+11+116]? = some (.inl (.int, 4, .inl lf)) := ab_other e11 (by omega) c7
  have c15 : h10[x+11+1]? = some (.inr (7, [.int 0, .int e, .int 0, .int 0, .int 0, .int 0, .int 0, .ref (x + 11 + 1 + 1), .ref (x + 11 + 1 + 2), .int 0, .int u, .ref (x + 11 + 1 + 3), .ref (x + 11 + 1 + 4), .int 0, .ref (x + 11 + 1 + 5), .int 0])) := ab_other e11 (by omega) g9o
  have c16 : h10[x+11+1+1]? = some (.inl (.int, 256, .inl ((sp_clear_a a0_World) 7))) := ab_other e11 (by omega) g97
  have c17 : h10[x+11+1+2]? = some (.inl (.int, 256, .inl ((sp_clear_a a0_World) 8))) := ab_other e11 (by omega) g98
  have c18 : h10[x+11+1+3]? = some (.inl (.int, 12288, .inl ((sp_clear_a a0_World) 11))) := ab_other e11 (by omega) g911
  have c19 : h10[x+11+1+4]? = some (.inl (.int, 1792, .inl ((sp_clear_a a0_World) 12))) := ab_other e11 (by omega) g912
  have c20 : h10[x+11+1+5]? = some (.inl (.int, 32, .inl ((sp_clear_a a0_World) 14))) := ab_other e11 (by omega) g914
  have fr21 : ab_fr (in_Play0 (x + 11)) h h10 := ab_fr_set fr8 e11 (by (show _ ∧ _; omega))
  clear c5 c6 c7 fr8 e11
  try clear h1
  refine ab_aload_n d_Play_begin_14 rfl rfl rfl ?_
  refine ab_iconst (v := 0) d_Play_begin_15 (by decide) ?_
  refine ab_put (f := 3) d_Play_begin_16 c12 rfl (by decide) (k2 136 rfl rfl) rfl rfl (fun _ => rfl) (fun _ => rfl) (Nat.le_of_ble_eq_true rfl) ?_
  show ab_V _ _ _ _ _ _ _ 19 [some (.ref (x + 11)), some (.int e), some (.int u)] [] (h10.set (x+11) (.inr (10, [.ref (x + 11 + 1), pl1, pl2, .int 0, pl4, .int 0, pl6, pl7, .ref (x + 11 + 114), pl9, .ref (x + 11 + 116), pl11, pl12, pl13])))
  refine ab_gen (fun h22 e23 => ?_)
  have c24 : h22[x+11]? = some (.inr (10, [.ref (x + 11 + 1), pl1, pl2, .int 0, pl4, .int 0, pl6, pl7, .ref (x + 11 + 114), pl9, .ref (x + 11 + 116), pl11, pl12, pl13])) := ab_self e23 c12
  have c25 : h22[x+11+114]? = some (.inl (.boolean, 256, .inl cf)) := ab_other e23 (by omega) c13
  have c26 : h22[x+11+116]? = some (.inl (.int, 4, .inl lf)) := ab_other e23 (by omega) c14
  have c27 : h22[x+11+1]? = some (.inr (7, [.int 0, .int e, .int 0, .int 0, .int 0, .int 0, .int 0, .ref (x + 11 + 1 + 1), .ref (x + 11 + 1 + 2), .int 0, .int u, .ref (x + 11 + 1 + 3), .ref (x + 11 + 1 + 4), .int 0, .ref (x + 11 + 1 + 5), .int 0])) := ab_other e23 (by omega) c15
  have c28 : h22[x+11+1+1]? = some (.inl (.int, 256, .inl ((sp_clear_a a0_World) 7))) := ab_other e23 (by omega) c16
  have c29 : h22[x+11+1+2]? = some (.inl (.int, 256, .inl ((sp_clear_a a0_World) 8))) := ab_other e23 (by omega) c17
  have c30 : h22[x+11+1+3]? = some (.inl (.int, 12288, .inl ((sp_clear_a a0_World) 11))) := ab_other e23 (by omega) c18
  have c31 : h22[x+11+1+4]? = some (.inl (.int, 1792, .inl ((sp_clear_a a0_World) 12))) := ab_other e23 (by omega) c19
  have c32 : h22[x+11+1+5]? = some (.inl (.int, 32, .inl ((sp_clear_a a0_World) 14))) := ab_other e23 (by omega) c20
  have fr33 : ab_fr (in_Play0 (x + 11)) h h22 := ab_fr_set fr21 e23 (by (show _ ∧ _; omega))
  clear c12 c13 c14 c15 c16 c17 c18 c19 c20 fr21 e23
  try clear h10
  refine ab_aload_n d_Play_begin_19 rfl rfl rfl ?_
  refine ab_callV_v (As := []) (rest := []) d_Play_begin_20 (r_forgetInputs c24 c25 c26 c27) (ab_mkC s_Play_forgetInputs (Nat.le_of_ble_eq_true rfl) (Nat.le_of_ble_eq_true rfl) (by decide) (by decide)) (k6 82 rfl rfl) i_Play_forgetInputs v_Play_forgetInputs c24 rfl rfl (Nat.le_of_ble_eq_true rfl) (fun h34 q35 => ?_)
  have f36 := q35
  have fr37 : ab_fr (in_Play0 (x + 11)) h h34 := ab_fr_tr fr33 f36
  clear f36 fr33
  try clear h22
  exact ab_vret d_Play_begin_23 rfl (Nat.le_refl _) (Nat.le_refl _) (by exact ⟨rfl, fr37⟩)
def sq_W_text (e : Int32) : Int32 := (0)
set_option maxRecDepth 20000 in
set_option maxHeartbeats 2000000 in
theorem f_W_text {h : List ab_E}         {x : Nat} {w e : Int32}         (h0 : at_W0 h x w) : ab_M y_W_text { frames := 4, cells := 0, slots := 0, locals := 240 } [.ref x, .int e] h (ab_A (some (.int (sq_W_text e))) (fun h1 => ab_fr (in_lo x) h h1)) := by
  obtain ⟨hW, hL, hRd, hB, ⟨hP, hN, hBe, hWs, hTk, hRw⟩, hSt, ⟨hG, hG1, hGc, hG2, hG3, hGe, hG4, hG5⟩, ⟨hH, hH1, hHc, hH2, hH3, hHe, hH4, hH5⟩⟩ := h0
  have hW0 := hW; have gwo := hW
  replace gwo : h[x]? = some (.inr (0, [.ref (x + 1), .ref (x + 8), .ref (x + 11), .ref (x + 131), .ref (x + 133), .ref (x + 325), .int 0, .int (s0_W w 7), .int 0])) := gwo
  have hL0 := hL; obtain ⟨glo, gl0, gl6, gl7, gl8, gl9, gl12⟩ := hL
  replace glo : h[x + 1]? = some (.inr (1, [.ref (x + 1 + 1), .int 0, .int 0, .int 0, .int 0, .int 0, .ref (x + 1 + 2), .ref (x + 1 + 3), .ref (x + 1 + 4), .ref (x + 1 + 5), .int 0, .int 0, .ref (x + 1 + 6)])) := glo
  replace gl0 : h[x + 1 + 1]? = some (.inl (.byte, 6000, .inl (fun _ => 0))) := gl0
  replace gl6 : h[x + 1 + 2]? = some (.inl (.int, 6001, .inl (fun _ => 0))) := gl6
  replace gl7 : h[x + 1 + 3]? = some (.inl (.int, 6001, .inl (fun _ => 0))) := gl7
  replace gl8 : h[x + 1 + 4]? = some (.inl (.int, 6001, .inl (fun _ => 0))) := gl8
  replace gl9 : h[x + 1 + 5]? = some (.inl (.boolean, 6001, .inl (fun _ => 0))) := gl9
  replace gl12 : h[x + 1 + 6]? = some (.inl (.int, 42, .inl (a0_Lexer 12))) := gl12
  have hP0 := hP; obtain ⟨gpo, gp4, gp8, gp9, gp10, gp11, gp12, gp13⟩ := hP
  replace gpo : h[x + 11]? = some (.inr (10, [.ref (x + 11 + 1), .int 0, .int 1, .int 0, .ref (x + 11 + 104), .int 0, .ref (x + 11 + 7), .ref (x + 11 + 105), .ref (x + 11 + 114), .ref (x + 11 + 115), .ref (x + 11 + 116), .ref (x + 11 + 117), .ref (x + 11 + 118), .ref (x + 11 + 119)])) := gpo
  replace gp4 : h[x + 11 + 104]? = some (.inl (.int, 256, .inl (fun _ => 0))) := gp4
  replace gp8 : h[x + 11 + 114]? = some (.inl (.boolean, 256, .inl (fun _ => 0))) := gp8
  replace gp9 : h[x + 11 + 115]? = some (.inl (.int, 256, .inl (fun _ => 0))) := gp9
  replace gp10 : h[x + 11 + 116]? = some (.inl (.int, 4, .inl (fun _ => 0))) := gp10
  replace gp11 : h[x + 11 + 117]? = some (.inl (.int, 16, .inl (fun _ => 0))) := gp11
  replace gp12 : h[x + 11 + 118]? = some (.inl (.int, 64, .inl (fun _ => 0))) := gp12
  replace gp13 : h[x + 11 + 119]? = some (.inl (.int, 4, .inl (fun _ => 0))) := gp13
  have hN0 := hN; obtain ⟨gno, gn7, gn8, gn11, gn12, gn14⟩ := hN
  replace gno : h[x + 11 + 1]? = some (.inr (7, [.int 0, .int 0, .int 0, .int 0, .int 0, .int 0, .int 0, .ref (x + 11 + 1 + 1), .ref (x + 11 + 1 + 2), .int 0, .int 0, .ref (x + 11 + 1 + 3), .ref (x + 11 + 1 + 4), .int 0, .ref (x + 11 + 1 + 5), .int 0])) := gno
  replace gn7 : h[x + 11 + 1 + 1]? = some (.inl (.int, 256, .inl (fun _ => 0))) := gn7
  replace gn8 : h[x + 11 + 1 + 2]? = some (.inl (.int, 256, .inl (a0_World 8))) := gn8
  replace gn11 : h[x + 11 + 1 + 3]? = some (.inl (.int, 12288, .inl (fun _ => 0))) := gn11
  replace gn12 : h[x + 11 + 1 + 4]? = some (.inl (.int, 1792, .inl (fun _ => 0))) := gn12
  replace gn14 : h[x + 11 + 1 + 5]? = some (.inl (.int, 32, .inl (fun _ => 0))) := gn14
  have hH0 := hH; obtain ⟨gho, gh5, gh6, gh8, gh9, gh10, gh11, gh12, gh13, gh14, gh16⟩ := hH
  replace gho : h[x + 325]? = some (.inr (4, [.ref (x + 325 + 1), .int 0, .ref (x + 325 + 70), .ref (x + 325 + 138), .int 0, .ref (x + 325 + 182), .ref (x + 325 + 183), .int 0, .ref (x + 325 + 184), .ref (x + 325 + 185), .ref (x + 325 + 186), .ref (x + 325 + 187), .ref (x + 325 + 188), .ref (x + 325 + 189), .ref (x + 325 + 190), .int 0, .ref (x + 325 + 191), .int 0])) := gho
  replace gh5 : h[x + 325 + 182]? = some (.inl (.int, 16, .inl (fun _ => 0))) := gh5
  replace gh6 : h[x + 325 + 183]? = some (.inl (.int, 768, .inl (fun _ => 0))) := gh6
  replace gh8 : h[x + 325 + 184]? = some (.inl (.int, 16, .inl (fun _ => 0))) := gh8
  replace gh9 : h[x + 325 + 185]? = some (.inl (.int, 16, .inl (fun _ => 0))) := gh9
  replace gh10 : h[x + 325 + 186]? = some (.inl (.int, 16, .inl (fun _ => 0))) := gh10
  replace gh11 : h[x + 325 + 187]? = some (.inl (.int, 16, .inl (fun _ => 0))) := gh11
  replace gh12 : h[x + 325 + 188]? = some (.inl (.int, 16, .inl (fun _ => 0))) := gh12
  replace gh13 : h[x + 325 + 189]? = some (.inl (.int, 16, .inl (fun _ => 0))) := gh13
  replace gh14 : h[x + 325 + 190]? = some (.inl (.int, 16, .inl (fun _ => 0))) := gh14
  replace gh16 : h[x + 325 + 191]? = some (.inl (.int, 12000, .inl (fun _ => 0))) := gh16
  have hHc0 := hHc; obtain ⟨gdo, gd2⟩ := hHc
  replace gdo : h[x + 325 + 70]? = some (.inr (3, [.ref (x + 325 + 70 + 1), .ref (x + 325 + 70 + 18), .ref (x + 325 + 70 + 67), .int 0])) := gdo
  replace gd2 : h[x + 325 + 70 + 67]? = some (.inl (.int, 17, .inl (fun _ => 0))) := gd2
  have hHe0 := hHe; obtain ⟨gfo, gf2⟩ := hHe
  replace gfo : h[x + 325 + 138]? = some (.inr (3, [.ref (x + 325 + 138 + 1), .ref (x + 325 + 138 + 10), .ref (x + 325 + 138 + 43), .int 0])) := gfo
  replace gf2 : h[x + 325 + 138 + 43]? = some (.inl (.int, 9, .inl (fun _ => 0))) := gf2
  have hRd0 := hRd; have gro := hRd
  replace gro : h[x + 8]? = some (.inr (5, [.ref (x + 1), .ref (x + 8 + 1), .null])) := gro
  refine ab_of2 (lv := [some (.ref x), some (.int e)]) 0 rfl rfl (Nat.le_of_ble_eq_true rfl) ?_
  refine ab_aload_n d_W_text_0 rfl rfl rfl ?_
  refine ab_get (f := 1) d_W_text_1 gwo rfl (by decide) (k3 158 rfl rfl) rfl ?_
  refine ab_aload_n d_W_text_4 rfl rfl rfl ?_
  refine ab_get (f := 5) d_W_text_5 gwo rfl (by decide) (k3 162 rfl rfl) rfl ?_
  refine ab_callV_a (As := [.ref (x + 325)]) (rest := []) d_W_text_8 (r_readAll gro glo gl6 gl7 gl8 gl9 gho gdo gfo gd2 gf2) (ab_mkC s_Reader_readAll (Nat.le_of_ble_eq_true rfl) (Nat.le_of_ble_eq_true rfl) (by decide) (by decide)) (k3 205 rfl rfl) i_Reader_readAll v_Reader_readAll gro rfl rfl (Nat.le_of_ble_eq_true rfl) (fun h1 q2 => ?_)
  obtain ⟨y10, y11, c4, c5, c6, c7, c8, c9, f3⟩ := q2
  have c12 : h1[x]? = some (.inr (0, [.ref (x + 1), .ref (x + 8), .ref (x + 11), .ref (x + 131), .ref (x + 133), .ref (x + 325), .int 0, .int (s0_W w 7), .int 0])) := ab_fr_at f3 gwo (by omega)
  have c13 : h1[x+1+1]? = some (.inl (.byte, 6000, .inl (fun _ => 0))) := ab_fr_at f3 gl0 (by omega)
  have c14 : h1[x+1+6]? = some (.inl (.int, 42, .inl (a0_Lexer 12))) := ab_fr_at f3 gl12 (by omega)
  have c15 : h1[x+11]? = some (.inr (10, [.ref (x + 11 + 1), .int 0, .int 1, .int 0, .ref (x + 11 + 104), .int 0, .ref (x + 11 + 7), .ref (x + 11 + 105), .ref (x + 11 + 114), .ref (x + 11 + 115), .ref (x + 11 + 116), .ref (x + 11 + 117), .ref (x + 11 + 118), .ref (x + 11 + 119)])) := ab_fr_at f3 gpo (by omega)
  have c16 : h1[x+11+104]? = some (.inl (.int, 256, .inl (fun _ => 0))) := ab_fr_at f3 gp4 (by omega)
  have c17 : h1[x+11+114]? = some (.inl (.boolean, 256, .inl (fun _ => 0))) := ab_fr_at f3 gp8 (by omega)
  have c18 : h1[x+11+115]? = some (.inl (.int, 256, .inl (fun _ => 0))) := ab_fr_at f3 gp9 (by omega)
  have c19 : h1[x+11+116]? = some (.inl (.int, 4, .inl (fun _ => 0))) := ab_fr_at f3 gp10 (by omega)
  have c20 : h1[x+11+117]? = some (.inl (.int, 16, .inl (fun _ => 0))) := ab_fr_at f3 gp11 (by omega)
  have c21 : h1[x+11+118]? = some (.inl (.int, 64, .inl (fun _ => 0))) := ab_fr_at f3 gp12 (by omega)
  have c22 : h1[x+11+119]? = some (.inl (.int, 4, .inl (fun _ => 0))) := ab_fr_at f3 gp13 (by omega)
  have c23 : h1[x+11+1]? = some (.inr (7, [.int 0, .int 0, .int 0, .int 0, .int 0, .int 0, .int 0, .ref (x + 11 + 1 + 1), .ref (x + 11 + 1 + 2), .int 0, .int 0, .ref (x + 11 + 1 + 3), .ref (x + 11 + 1 + 4), .int 0, .ref (x + 11 + 1 + 5), .int 0])) := ab_fr_at f3 gno (by omega)
  have c24 : h1[x+11+1+1]? = some (.inl (.int, 256, .inl (fun _ => 0))) := ab_fr_at f3 gn7 (by omega)
  have c25 : h1[x+11+1+2]? = some (.inl (.int, 256, .inl (a0_World 8))) := ab_fr_at f3 gn8 (by omega)
  have c26 : h1[x+11+1+3]? = some (.inl (.int, 12288, .inl (fun _ => 0))) := ab_fr_at f3 gn11 (by omega)
  have c27 : h1[x+11+1+4]? = some (.inl (.int, 1792, .inl (fun _ => 0))) := ab_fr_at f3 gn12 (by omega)
  have c28 : h1[x+11+1+5]? = some (.inl (.int, 32, .inl (fun _ => 0))) := ab_fr_at f3 gn14 (by omega)
  have c29 : h1[x+325+182]? = some (.inl (.int, 16, .inl (fun _ => 0))) := ab_fr_at f3 gh5 (by omega)
  have c30 : h1[x+325+183]? = some (.inl (.int, 768, .inl (fun _ => 0))) := ab_fr_at f3 gh6 (by omega)
  have c31 : h1[x+325+184]? = some (.inl (.int, 16, .inl (fun _ => 0))) := ab_fr_at f3 gh8 (by omega)
  have c32 : h1[x+325+185]? = some (.inl (.int, 16, .inl (fun _ => 0))) := ab_fr_at f3 gh9 (by omega)
  have c33 : h1[x+325+186]? = some (.inl (.int, 16, .inl (fun _ => 0))) := ab_fr_at f3 gh10 (by omega)
  have c34 : h1[x+325+187]? = some (.inl (.int, 16, .inl (fun _ => 0))) := ab_fr_at f3 gh11 (by omega)
  have c35 : h1[x+325+188]? = some (.inl (.int, 16, .inl (fun _ => 0))) := ab_fr_at f3 gh12 (by omega)
  have c36 : h1[x+325+189]? = some (.inl (.int, 16, .inl (fun _ => 0))) := ab_fr_at f3 gh13 (by omega)
  have c37 : h1[x+325+190]? = some (.inl (.int, 16, .inl (fun _ => 0))) := ab_fr_at f3 gh14 (by omega)
  have c38 : h1[x+325+191]? = some (.inl (.int, 12000, .inl (fun _ => 0))) := ab_fr_at f3 gh16 (by omega)
  have fr39 : ab_fr (in_lo x) h h1 := ab_fr_tr (ab_fr_rf _ _) (ab_fr_mono f3 (by intro i hi; simp only [in_lo] at * <;> omega))
  clear f3
  replace c4 : h1[x+1]? = some (.inr (1, [.ref (x + 1 + 1), .int 0, .int 0, .int 0, .int 0, .int 0, .ref (x + 1 + 2), .ref (x + 1 + 3), .ref (x + 1 + 4), .ref (x + 1 + 5), .int 1, .int 0, .ref (x + 1 + 6)])) := c4
  replace c5 : h1[x+325]? = some (.inr (4, [.ref (x + 325 + 1), .int 0, .ref (x + 325 + 70), .ref (x + 325 + 138), .int 0, .ref (x + 325 + 182), .ref (x + 325 + 183), .int 0, .ref (x + 325 + 184), .ref (x + 325 + 185), .ref (x + 325 + 186), .ref (x + 325 + 187), .ref (x + 325 + 188), .ref (x + 325 + 189), .ref (x + 325 + 190), .int 0, .ref (x + 325 + 191), .int 0])) := c5
  replace c6 : h1[x+325+70]? = some (.inr (3, [.ref (x + 325 + 70 + 1), .ref (x + 325 + 70 + 18), .ref (x + 325 + 70 + 67), .int 0])) := c6
  replace c7 : h1[x+325+138]? = some (.inr (3, [.ref (x + 325 + 138 + 1), .ref (x + 325 + 138 + 10), .ref (x + 325 + 138 + 43), .int 0])) := c7
  replace c8 : h1[x+325+70+67]? = some (.inl (.int, 17, .inl y10)) := c8
  replace c9 : h1[x+325+138+43]? = some (.inl (.int, 9, .inl y11)) := c9
  refine ab_if_ne (tgt := 23) d_W_text_11 (by decide) (fun q40 => ?_) (fun q40 => by exact absurd q40 (by decide))
  refine ab_aload_n d_W_text_23 rfl rfl rfl ?_
  refine ab_callV_v (As := []) (rest := []) d_W_text_24 (r_exch c12) (ab_mkC s_W_exchangePrograms (Nat.le_of_ble_eq_true rfl) (Nat.le_of_ble_eq_true rfl) (by decide) (by decide)) (k6 69 rfl rfl) i_W_exchangePrograms v_W_exchangePrograms c12 rfl rfl (Nat.le_of_ble_eq_true rfl) (fun h41 q42 => ?_)
  obtain ⟨c44, f43⟩ := q42
  have c45 : h41[x+1+1]? = some (.inl (.byte, 6000, .inl (fun _ => 0))) := ab_fr_at f43 c13 (by omega)
  have c46 : h41[x+1+6]? = some (.inl (.int, 42, .inl (a0_Lexer 12))) := ab_fr_at f43 c14 (by omega)
  have c47 : h41[x+11]? = some (.inr (10, [.ref (x + 11 + 1), .int 0, .int 1, .int 0, .ref (x + 11 + 104), .int 0, .ref (x + 11 + 7), .ref (x + 11 + 105), .ref (x + 11 + 114), .ref (x + 11 + 115), .ref (x + 11 + 116), .ref (x + 11 + 117), .ref (x + 11 + 118), .ref (x + 11 + 119)])) := ab_fr_at f43 c15 (by omega)
  have c48 : h41[x+11+104]? = some (.inl (.int, 256, .inl (fun _ => 0))) := ab_fr_at f43 c16 (by omega)
  have c49 : h41[x+11+114]? = some (.inl (.boolean, 256, .inl (fun _ => 0))) := ab_fr_at f43 c17 (by omega)
  have c50 : h41[x+11+115]? = some (.inl (.int, 256, .inl (fun _ => 0))) := ab_fr_at f43 c18 (by omega)
  have c51 : h41[x+11+116]? = some (.inl (.int, 4, .inl (fun _ => 0))) := ab_fr_at f43 c19 (by omega)
  have c52 : h41[x+11+117]? = some (.inl (.int, 16, .inl (fun _ => 0))) := ab_fr_at f43 c20 (by omega)
  have c53 : h41[x+11+118]? = some (.inl (.int, 64, .inl (fun _ => 0))) := ab_fr_at f43 c21 (by omega)
  have c54 : h41[x+11+119]? = some (.inl (.int, 4, .inl (fun _ => 0))) := ab_fr_at f43 c22 (by omega)
  have c55 : h41[x+11+1]? = some (.inr (7, [.int 0, .int 0, .int 0, .int 0, .int 0, .int 0, .int 0, .ref (x + 11 + 1 + 1), .ref (x + 11 + 1 + 2), .int 0, .int 0, .ref (x + 11 + 1 + 3), .ref (x + 11 + 1 + 4), .int 0, .ref (x + 11 + 1 + 5), .int 0])) := ab_fr_at f43 c23 (by omega)
  have c56 : h41[x+11+1+1]? = some (.inl (.int, 256, .inl (fun _ => 0))) := ab_fr_at f43 c24 (by omega)
  have c57 : h41[x+11+1+2]? = some (.inl (.int, 256, .inl (a0_World 8))) := ab_fr_at f43 c25 (by omega)
  have c58 : h41[x+11+1+3]? = some (.inl (.int, 12288, .inl (fun _ => 0))) := ab_fr_at f43 c26 (by omega)
  have c59 : h41[x+11+1+4]? = some (.inl (.int, 1792, .inl (fun _ => 0))) := ab_fr_at f43 c27 (by omega)
  have c60 : h41[x+11+1+5]? = some (.inl (.int, 32, .inl (fun _ => 0))) := ab_fr_at f43 c28 (by omega)
  have c61 : h41[x+325+182]? = some (.inl (.int, 16, .inl (fun _ => 0))) := ab_fr_at f43 c29 (by omega)
  have c62 : h41[x+325+183]? = some (.inl (.int, 768, .inl (fun _ => 0))) := ab_fr_at f43 c30 (by omega)
  have c63 : h41[x+325+184]? = some (.inl (.int, 16, .inl (fun _ => 0))) := ab_fr_at f43 c31 (by omega)
  have c64 : h41[x+325+185]? = some (.inl (.int, 16, .inl (fun _ => 0))) := ab_fr_at f43 c32 (by omega)
  have c65 : h41[x+325+186]? = some (.inl (.int, 16, .inl (fun _ => 0))) := ab_fr_at f43 c33 (by omega)
  have c66 : h41[x+325+187]? = some (.inl (.int, 16, .inl (fun _ => 0))) := ab_fr_at f43 c34 (by omega)
  have c67 : h41[x+325+188]? = some (.inl (.int, 16, .inl (fun _ => 0))) := ab_fr_at f43 c35 (by omega)
  have c68 : h41[x+325+189]? = some (.inl (.int, 16, .inl (fun _ => 0))) := ab_fr_at f43 c36 (by omega)
  have c69 : h41[x+325+190]? = some (.inl (.int, 16, .inl (fun _ => 0))) := ab_fr_at f43 c37 (by omega)
  have c70 : h41[x+325+191]? = some (.inl (.int, 12000, .inl (fun _ => 0))) := ab_fr_at f43 c38 (by omega)
  have c71 : h41[x+1]? = some (.inr (1, [.ref (x + 1 + 1), .int 0, .int 0, .int 0, .int 0, .int 0, .ref (x + 1 + 2), .ref (x + 1 + 3), .ref (x + 1 + 4), .ref (x + 1 + 5), .int 1, .int 0, .ref (x + 1 + 6)])) := ab_fr_at f43 c4 (by omega)
  have c72 : h41[x+325]? = some (.inr (4, [.ref (x + 325 + 1), .int 0, .ref (x + 325 + 70), .ref (x + 325 + 138), .int 0, .ref (x + 325 + 182), .ref (x + 325 + 183), .int 0, .ref (x + 325 + 184), .ref (x + 325 + 185), .ref (x + 325 + 186), .ref (x + 325 + 187), .ref (x + 325 + 188), .ref (x + 325 + 189), .ref (x + 325 + 190), .int 0, .ref (x + 325 + 191), .int 0])) := ab_fr_at f43 c5 (by omega)
  have c73 : h41[x+325+70]? = some (.inr (3, [.ref (x + 325 + 70 + 1), .ref (x + 325 + 70 + 18), .ref (x + 325 + 70 + 67), .int 0])) := ab_fr_at f43 c6 (by omega)
  have c74 : h41[x+325+138]? = some (.inr (3, [.ref (x + 325 + 138 + 1), .ref (x + 325 + 138 + 10), .ref (x + 325 + 138 + 43), .int 0])) := ab_fr_at f43 c7 (by omega)
  have c75 : h41[x+325+70+67]? = some (.inl (.int, 17, .inl y10)) := ab_fr_at f43 c8 (by omega)
  have c76 : h41[x+325+138+43]? = some (.inl (.int, 9, .inl y11)) := ab_fr_at f43 c9 (by omega)
  have fr77 : ab_fr (in_lo x) h h41 := ab_fr_tr fr39 (ab_fr_mono f43 (by intro i hi; simp only [in_lo] at * <;> omega))
  clear c12 c13 c14 c15 c16 c17 c18 c19 c20 c21 c22 c23 c24 c25 c26 c27 c28 c29 c30 c31 c32 c33 c34 c35 c36 c37 c38 c4 c5 c6 c7 c8 c9 f43 fr39
  try clear h1
  replace c44 : h41[x]? = some (.inr (0, [.ref (x + 1), .ref (x + 8), .ref (x + 11), .ref (x + 131), .ref (x + 325), .ref (x + 133), .int 1, .int (s0_W w 7), .int 0])) := c44
  refine ab_aload_n d_W_text_27 rfl rfl rfl ?_
  refine ab_get (f := 2) d_W_text_28 c44 rfl (by decide) (k3 159 rfl rfl) rfl ?_
  refine ab_iload_n d_W_text_31 rfl rfl ?_
  refine ab_aload_n d_W_text_32 rfl rfl rfl ?_
  refine ab_get (f := 4) d_W_text_33 c44 rfl (by decide) (k3 161 rfl rfl) rfl ?_
  refine ab_get (f := 2) d_W_text_36 c72 rfl (by decide) (k3 57 rfl rfl) rfl ?_
  refine ab_callV_a (As := []) (rest := [.int e, .ref (x + 11)]) d_W_text_39 (r_total c73 c75) (ab_mkC s_Shapes_total (Nat.le_of_ble_eq_true rfl) (Nat.le_of_ble_eq_true rfl) (by decide) (by decide)) (k6 73 rfl rfl) i_Shapes_total v_Shapes_total c73 rfl rfl (Nat.le_of_ble_eq_true rfl) (fun h79 q78 => ?_)
  subst q78
  refine ab_callV_v (As := [.int e, .int (y10 (0 : Int32).toNatClampNeg)]) (rest := []) d_W_text_42 (r_Play_begin (show at_World h41 (x + 11 + 1) (fun _ => 0) a0_World from ⟨c55, c56, c57, c58, c59, c60⟩) c47 c49 c51) (ab_mkC s_Play_begin (Nat.le_of_ble_eq_true rfl) (Nat.le_of_ble_eq_true rfl) (by decide) (by decide)) (k6 74 rfl rfl) i_Play_begin v_Play_begin c47 rfl rfl (Nat.le_of_ble_eq_true rfl) (fun h80 q81 => ?_)
  have f82 := q81
  have c83 : h80[x+1+1]? = some (.inl (.byte, 6000, .inl (fun _ => 0))) := ab_fr_at f82 c45 (by simp only [in_Play0] <;> omega)
  have c84 : h80[x+1+6]? = some (.inl (.int, 42, .inl (a0_Lexer 12))) := ab_fr_at f82 c46 (by simp only [in_Play0] <;> omega)
  have c85 : h80[x+325+182]? = some (.inl (.int, 16, .inl (fun _ => 0))) := ab_fr_at f82 c61 (by simp only [in_Play0] <;> omega)
  have c86 : h80[x+325+183]? = some (.inl (.int, 768, .inl (fun _ => 0))) := ab_fr_at f82 c62 (by simp only [in_Play0] <;> omega)
  have c87 : h80[x+325+184]? = some (.inl (.int, 16, .inl (fun _ => 0))) := ab_fr_at f82 c63 (by simp only [in_Play0] <;> omega)
  have c88 : h80[x+325+185]? = some (.inl (.int, 16, .inl (fun _ => 0))) := ab_fr_at f82 c64 (by simp only [in_Play0] <;> omega)
  have c89 : h80[x+325+186]? = some (.inl (.int, 16, .inl (fun _ => 0))) := ab_fr_at f82 c65 (by simp only [in_Play0] <;> omega)
  have c90 : h80[x+325+187]? = some (.inl (.int, 16, .inl (fun _ => 0))) := ab_fr_at f82 c66 (by simp only [in_Play0] <;> omega)
  have c91 : h80[x+325+188]? = some (.inl (.int, 16, .inl (fun _ => 0))) := ab_fr_at f82 c67 (by simp only [in_Play0] <;> omega)
  have c92 : h80[x+325+189]? = some (.inl (.int, 16, .inl (fun _ => 0))) := ab_fr_at f82 c68 (by simp only [in_Play0] <;> omega)
  have c93 : h80[x+325+190]? = some (.inl (.int, 16, .inl (fun _ => 0))) := ab_fr_at f82 c69 (by simp only [in_Play0] <;> omega)
  have c94 : h80[x+325+191]? = some (.inl (.int, 12000, .inl (fun _ => 0))) := ab_fr_at f82 c70 (by simp only [in_Play0] <;> omega)
  have c95 : h80[x+1]? = some (.inr (1, [.ref (x + 1 + 1), .int 0, .int 0, .int 0, .int 0, .int 0, .ref (x + 1 + 2), .ref (x + 1 + 3), .ref (x + 1 + 4), .ref (x + 1 + 5), .int 1, .int 0, .ref (x + 1 + 6)])) := ab_fr_at f82 c71 (by simp only [in_Play0] <;> omega)
  have c96 : h80[x+325]? = some (.inr (4, [.ref (x + 325 + 1), .int 0, .ref (x + 325 + 70), .ref (x + 325 + 138), .int 0, .ref (x + 325 + 182), .ref (x + 325 + 183), .int 0, .ref (x + 325 + 184), .ref (x + 325 + 185), .ref (x + 325 + 186), .ref (x + 325 + 187), .ref (x + 325 + 188), .ref (x + 325 + 189), .ref (x + 325 + 190), .int 0, .ref (x + 325 + 191), .int 0])) := ab_fr_at f82 c72 (by simp only [in_Play0] <;> omega)
  have c97 : h80[x+325+70]? = some (.inr (3, [.ref (x + 325 + 70 + 1), .ref (x + 325 + 70 + 18), .ref (x + 325 + 70 + 67), .int 0])) := ab_fr_at f82 c73 (by simp only [in_Play0] <;> omega)
  have c98 : h80[x+325+138]? = some (.inr (3, [.ref (x + 325 + 138 + 1), .ref (x + 325 + 138 + 10), .ref (x + 325 + 138 + 43), .int 0])) := ab_fr_at f82 c74 (by simp only [in_Play0] <;> omega)
  have c99 : h80[x+325+70+67]? = some (.inl (.int, 17, .inl y10)) := ab_fr_at f82 c75 (by simp only [in_Play0] <;> omega)
  have c100 : h80[x+325+138+43]? = some (.inl (.int, 9, .inl y11)) := ab_fr_at f82 c76 (by simp only [in_Play0] <;> omega)
  have c101 : h80[x]? = some (.inr (0, [.ref (x + 1), .ref (x + 8), .ref (x + 11), .ref (x + 131), .ref (x + 325), .ref (x + 133), .int 1, .int (s0_W w 7), .int 0])) := ab_fr_at f82 c44 (by simp only [in_Play0] <;> omega)
  have fr102 : ab_fr (in_lo x) h h80 := ab_fr_tr fr77 (ab_fr_mono f82 (by intro i hi; simp only [in_lo, in_Play0] at * <;> omega))
  clear c45 c46 c61 c62 c63 c64 c65 c66 c67 c68 c69 c70 c71 c72 c73 c74 c75 c76 c44 f82 fr77
  try clear h41
  refine ab_aload_n d_W_text_45 rfl rfl rfl ?_
  refine ab_get (f := 4) d_W_text_46 c101 rfl (by decide) (k3 161 rfl rfl) rfl ?_
  refine ab_get (f := 7) d_W_text_49 c96 rfl (by decide) (k3 82 rfl rfl) rfl ?_
  exact ab_iret d_W_text_52 rfl (Nat.le_refl _) (Nat.le_refl _) (by unfold sq_W_text; exact ⟨rfl, fr102⟩)
set_option maxRecDepth 20000 in
set_option maxHeartbeats 2000000 in
theorem r_scratch {h : List ab_E}  {q0 q1 q2 q3 q4 q5 q7 q8 q9 q10 q11 q12 q13 : Value} {x : Nat}  (qo : h[x + 11]? = some (.inr (10, [q0, q1, q2, q3, q4, q5, .ref (x + 11 + 7), q7, q8, q9, q10, q11, q12, q13]))) (hb : h[x + 11 + 7]? = some (.inl (.object "WorldEngine$World", 16, .inr (.inr (.inr (.inr (fun j => if j < 16 then some (x + 11 + 8 + 6 * j) else none))))))) : ab_M y_Play_scratch { frames := 0, cells := 0, slots := 0, locals := 0 } [.ref (x + 11)] h (ab_A (some (.ref (x + 11 + 8))) (fun h1 => h = h1)) := by
  refine ab_of2 (lv := [some (.ref (x + 11))]) 0 rfl rfl (Nat.le_of_ble_eq_true rfl) ?_
  refine ab_aload_n d_Play_scratch_0 rfl rfl rfl ?_
  refine ab_get (f := 6) d_Play_scratch_1 qo rfl (by decide) (k2 142 rfl rfl) rfl ?_
  refine ab_iconst (v := 0) d_Play_scratch_4 (by decide) ?_
  refine ab_aald d_Play_scratch_5 tW hb (in_of (by decide) (by decide) (by decide)) ?_
  rw [show ab_rf ((fun j => if j < 16 then some (x + 11 + 8 + 6 * j) else none) (0 : Int32).toNatClampNeg) = .ref (x + 11 + 8) from rfl]
  exact ab_aret d_Play_scratch_6 rfl (Or.inl ⟨_, rfl⟩) rfl (Nat.le_refl _) (Nat.le_refl _) ⟨rfl, rfl⟩
set_option maxRecDepth 20000 in
set_option maxHeartbeats 2000000 in
theorem r_carryEvents {h : List ab_E}  {n0 n1 n2 n3 n4 n5 n6 n7 n8 n9 n10 n11 n12 n14 n15 : Value} {x a b : Nat}  (no : h[x + 11 + 1]? = some (.inr (7, [n0, n1, n2, n3, n4, n5, n6, n7, n8, n9, n10, n11, n12, .int 0, n14, n15])))  : ab_M y_World_carryEvents { frames := 0, cells := 0, slots := 0, locals := 0 } [.ref (x + 11 + 1), .ref a, .ref b] h (ab_A none (fun h1 => ab_fr (fun j => j = x + 11 + 1) h h1)) := by
  refine ab_of2 (lv := [some (.ref (x + 11 + 1)), some (.ref a), some (.ref b), none, none, none, none]) 4 rfl rfl (Nat.le_of_ble_eq_true rfl) ?_
  refine ab_iconst (v := 0) d_World_carryEvents_0 (by decide) ?_
  refine ab_istore_n (lv' := [some (.ref (x + 11 + 1)), some (.ref a), some (.ref b), some (.int 0), none, none, none]) d_World_carryEvents_1 rfl (by decide) rfl ?_
  refine ab_iconst (v := 0) d_World_carryEvents_2 (by decide) ?_
  refine ab_istore (lv' := [some (.ref (x + 11 + 1)), some (.ref a), some (.ref b), some (.int 0), some (.int 0), none, none]) d_World_carryEvents_3 (by decide) rfl ?_
  refine ab_iload d_World_carryEvents_5 rfl ?_
  refine ab_aload_n d_World_carryEvents_7 rfl rfl rfl ?_
  refine ab_get (f := 13) d_World_carryEvents_8 no rfl (by decide) (k2 3 rfl rfl) rfl ?_
  refine ab_icmp_ge (tgt := 113) d_World_carryEvents_11 (by decide) (fun q1 => ?_) (fun q1 => by exact absurd (by decide) q1)
  refine ab_aload_n d_World_carryEvents_113 rfl rfl rfl ?_
  refine ab_iload_n d_World_carryEvents_114 rfl rfl ?_
  refine ab_put (f := 13) d_World_carryEvents_115 no rfl (by decide) (k2 3 rfl rfl) rfl rfl (fun _ => rfl) (fun _ => rfl) (Nat.le_of_ble_eq_true rfl) ?_
  show ab_V _ _ _ _ _ _ _ 118 [some (.ref (x + 11 + 1)), some (.ref a), some (.ref b), some (.int 0), some (.int 0), none, none] [] (h.set (x+11+1) (.inr (7, [n0, n1, n2, n3, n4, n5, n6, n7, n8, n9, n10, n11, n12, .int 0, n14, n15])))
  refine ab_gen (fun h2 e3 => ?_)
  have c4 : h2[x+11+1]? = some (.inr (7, [n0, n1, n2, n3, n4, n5, n6, n7, n8, n9, n10, n11, n12, .int 0, n14, n15])) := ab_self e3 no
  have fr5 : ab_fr (fun j => j = x + 11 + 1) h h2 := ab_fr_set (ab_fr_rf _ _) e3 (by first | (show _ ∧ _; omega) | (show _ ∨ _; omega) | (show _ = _; omega) | (show _ ≤ _; omega))
  clear e3
  exact ab_vret d_World_carryEvents_118 rfl (Nat.le_refl _) (Nat.le_refl _) (by exact ⟨rfl, fr5⟩)
set_option maxRecDepth 20000 in
set_option maxHeartbeats 2000000 in
theorem r_carryFrom {h : List ab_E}  {n0 n1 n2 n3 n4 n5 n6 n7 n8 n10 n11 n12 n14 n15 : Value} {gv0 gv1 gv3 gv4 gv5 gv6 gv7 gv8 gv9 gv10 gv11 gv12 gv13 gv14 gv15 gv16 gv17 : Value} {cv0 cv1 : Value} {yf : Nat → Int32} {x a b : Nat}  (no : h[x + 11 + 1]? = some (.inr (7, [n0, n1, n2, n3, n4, n5, n6, n7, n8, .int 0, n10, n11, n12, .int 0, n14, n15]))) (go : h[x + 325]? = some (.inr (4, [gv0, gv1, .ref (x + 325 + 70), gv3, gv4, gv5, gv6, gv7, gv8, gv9, gv10, gv11, gv12, gv13, gv14, gv15, gv16, gv17]))) (co : h[x + 325 + 70]? = some (.inr (3, [cv0, cv1, .ref (x + 325 + 70 + 67), .int 0]))) (ya : h[x + 325 + 70 + 67]? = some (.inl (.int, 17, .inl yf)))  : ab_M y_World_carryFrom { frames := 1, cells := 0, slots := 0, locals := 40 } [.ref (x + 11 + 1), .ref a, .ref b, .ref (x + 325)] h (ab_A none (fun h1 => ab_fr (fun j => j = x + 11 + 1) h h1)) := by
  refine ab_of2 (lv := [some (.ref (x + 11 + 1)), some (.ref a), some (.ref b), some (.ref (x + 325)), none, none, none, none, none]) 5 rfl rfl (Nat.le_of_ble_eq_true rfl) ?_
  refine ab_aload_n d_World_carryFrom_0 rfl rfl rfl ?_
  refine ab_get (f := 2) d_World_carryFrom_1 go rfl (by decide) (k3 61 rfl rfl) rfl ?_
  refine ab_astore (lv' := [some (.ref (x + 11 + 1)), some (.ref a), some (.ref b), some (.ref (x + 325)), some (.ref (x + 325 + 70)), none, none, none, none]) d_World_carryFrom_4 (by decide) rfl rfl ?_
  refine ab_aload_n d_World_carryFrom_6 rfl rfl rfl ?_
  refine ab_aload d_World_carryFrom_7 rfl rfl ?_
  refine ab_callV_a (As := []) (rest := [.ref (x + 11 + 1)]) d_World_carryFrom_9 (r_total co ya) (ab_mkC s_Shapes_total (Nat.le_of_ble_eq_true rfl) (Nat.le_of_ble_eq_true rfl) (by decide) (by decide)) (k6 118 rfl rfl) i_Shapes_total v_Shapes_total co rfl rfl (Nat.le_of_ble_eq_true rfl) (fun h2 q1 => ?_)
  subst q1
  refine ab_topi (fun x3 ex3 => ?_)
  refine ab_put (f := 10) d_World_carryFrom_12 no rfl (by decide) (k1 234 rfl rfl) rfl rfl (fun _ => rfl) (fun _ => rfl) (Nat.le_of_ble_eq_true rfl) ?_
  show ab_V _ _ _ _ _ _ _ 15 [some (.ref (x + 11 + 1)), some (.ref a), some (.ref b), some (.ref (x + 325)), some (.ref (x + 325 + 70)), none, none, none, none] [] (h.set (x+11+1) (.inr (7, [n0, n1, n2, n3, n4, n5, n6, n7, n8, .int 0, .int x3, n11, n12, .int 0, n14, n15])))
  refine ab_gen (fun h4 e5 => ?_)
  have c6 : h4[x+11+1]? = some (.inr (7, [n0, n1, n2, n3, n4, n5, n6, n7, n8, .int 0, .int x3, n11, n12, .int 0, n14, n15])) := ab_self e5 no
  have c7 : h4[x+325]? = some (.inr (4, [gv0, gv1, .ref (x + 325 + 70), gv3, gv4, gv5, gv6, gv7, gv8, gv9, gv10, gv11, gv12, gv13, gv14, gv15, gv16, gv17])) := ab_other e5 (by omega) go
  have c8 : h4[x+325+70]? = some (.inr (3, [cv0, cv1, .ref (x + 325 + 70 + 67), .int 0])) := ab_other e5 (by omega) co
  have c9 : h4[x+325+70+67]? = some (.inl (.int, 17, .inl yf)) := ab_other e5 (by omega) ya
  have fr10 : ab_fr (fun j => j = x + 11 + 1) h h4 := ab_fr_set (ab_fr_rf _ _) e5 (by first | (show _ ∧ _; omega) | (show _ ∨ _; omega) | (show _ = _; omega) | (show _ ≤ _; omega))
  clear e5
  refine ab_aload_n d_World_carryFrom_15 rfl rfl rfl ?_
  refine ab_iconst (v := 0) d_World_carryFrom_16 (by decide) ?_
  refine ab_put (f := 6) d_World_carryFrom_17 c6 rfl (by decide) (k1 224 rfl rfl) rfl rfl (fun _ => rfl) (fun _ => rfl) (Nat.le_of_ble_eq_true rfl) ?_
  show ab_V _ _ _ _ _ _ _ 20 [some (.ref (x + 11 + 1)), some (.ref a), some (.ref b), some (.ref (x + 325)), some (.ref (x + 325 + 70)), none, none, none, none] [] (h4.set (x+11+1) (.inr (7, [n0, n1, n2, n3, n4, n5, .int 0, n7, n8, .int 0, .int x3, n11, n12, .int 0, n14, n15])))
  refine ab_gen (fun h11 e12 => ?_)
  have c13 : h11[x+11+1]? = some (.inr (7, [n0, n1, n2, n3, n4, n5, .int 0, n7, n8, .int 0, .int x3, n11, n12, .int 0, n14, n15])) := ab_self e12 c6
  have c14 : h11[x+325]? = some (.inr (4, [gv0, gv1, .ref (x + 325 + 70), gv3, gv4, gv5, gv6, gv7, gv8, gv9, gv10, gv11, gv12, gv13, gv14, gv15, gv16, gv17])) := ab_other e12 (by omega) c7
  have c15 : h11[x+325+70]? = some (.inr (3, [cv0, cv1, .ref (x + 325 + 70 + 67), .int 0])) := ab_other e12 (by omega) c8
  have c16 : h11[x+325+70+67]? = some (.inl (.int, 17, .inl yf)) := ab_other e12 (by omega) c9
  have fr17 : ab_fr (fun j => j = x + 11 + 1) h h11 := ab_fr_set fr10 e12 (by first | (show _ ∧ _; omega) | (show _ ∨ _; omega) | (show _ = _; omega) | (show _ ≤ _; omega))
  clear c6 c7 c8 c9 fr10 e12
  try clear h4
  refine ab_iconst (v := 0) d_World_carryFrom_20 (by decide) ?_
  refine ab_istore (lv' := [some (.ref (x + 11 + 1)), some (.ref a), some (.ref b), some (.ref (x + 325)), some (.ref (x + 325 + 70)), some (.int 0), none, none, none]) d_World_carryFrom_21 (by decide) rfl ?_
  refine ab_iload d_World_carryFrom_23 rfl ?_
  refine ab_aload_n d_World_carryFrom_25 rfl rfl rfl ?_
  refine ab_get (f := 9) d_World_carryFrom_26 c13 rfl (by decide) (k1 231 rfl rfl) rfl ?_
  refine ab_icmp_ge (tgt := 56) d_World_carryFrom_29 (by decide) (fun q18 => ?_) (fun q18 => by exact absurd (by decide) q18)
  refine ab_iconst (v := 0) d_World_carryFrom_56 (by decide) ?_
  refine ab_istore (lv' := [some (.ref (x + 11 + 1)), some (.ref a), some (.ref b), some (.ref (x + 325)), some (.ref (x + 325 + 70)), some (.int 0), none, none, none]) d_World_carryFrom_57 (by decide) rfl ?_
  refine ab_iload d_World_carryFrom_59 rfl ?_
  refine ab_aload d_World_carryFrom_61 rfl rfl ?_
  refine ab_get (f := 3) d_World_carryFrom_63 c15 rfl (by decide) (k3 43 rfl rfl) rfl ?_
  refine ab_icmp_ge (tgt := 207) d_World_carryFrom_66 (by decide) (fun q19 => ?_) (fun q19 => by exact absurd (by decide) q19)
  refine ab_aload_n d_World_carryFrom_207 rfl rfl rfl ?_
  refine ab_aload_n d_World_carryFrom_208 rfl rfl rfl ?_
  refine ab_aload_n d_World_carryFrom_209 rfl rfl rfl ?_
  refine ab_callV_v (As := [.ref b, .ref (x + 325)]) (rest := []) d_World_carryFrom_210 (r_carryEvents c13) (ab_mkC s_World_carryEvents (Nat.le_of_ble_eq_true rfl) (Nat.le_of_ble_eq_true rfl) (by decide) (by decide)) (k6 151 rfl rfl) i_World_carryEvents v_World_carryEvents c13 rfl rfl (Nat.le_of_ble_eq_true rfl) (fun h20 q21 => ?_)
  have f22 := q21
  have c23 : h20[x+325]? = some (.inr (4, [gv0, gv1, .ref (x + 325 + 70), gv3, gv4, gv5, gv6, gv7, gv8, gv9, gv10, gv11, gv12, gv13, gv14, gv15, gv16, gv17])) := ab_fr_at f22 c14 (by omega)
  have c24 : h20[x+325+70]? = some (.inr (3, [cv0, cv1, .ref (x + 325 + 70 + 67), .int 0])) := ab_fr_at f22 c15 (by omega)
  have c25 : h20[x+325+70+67]? = some (.inl (.int, 17, .inl yf)) := ab_fr_at f22 c16 (by omega)
  have fr26 : ab_fr (fun j => j = x + 11 + 1) h h20 := ab_fr_tr fr17 f22
  clear c14 c15 c16 f22 fr17
  try clear h11
  exact ab_vret d_World_carryFrom_213 rfl (Nat.le_refl _) (Nat.le_refl _) (by subst ex3; exact ⟨rfl, fr26⟩)
set_option maxRecDepth 20000 in
set_option maxHeartbeats 2000000 in
theorem r_Play_carry {h : List ab_E}   {q1 q2 q3 q4 q5 q7 q8 q9 q10 q11 q12 q13 : Value} {gv0 gv1 gv3 gv4 gv5 gv6 gv7 gv8 gv9 gv10 gv11 gv12 gv13 gv14 gv15 gv16 gv17 : Value} {cv0 cv1 : Value} {yf : Nat → Int32} {x a : Nat} (hN : at_World h (x + 11 + 1) (fun _ => 0) a0_World) (hS : at_World h (x + 11 + 8) (fun _ => 0) a0_World) (qo : h[x + 11]? = some (.inr (10, [.ref (x + 11 + 1), q1, q2, q3, q4, q5, .ref (x + 11 + 7), q7, q8, q9, q10, q11, q12, q13]))) (go : h[x + 325]? = some (.inr (4, [gv0, gv1, .ref (x + 325 + 70), gv3, gv4, gv5, gv6, gv7, gv8, gv9, gv10, gv11, gv12, gv13, gv14, gv15, gv16, gv17]))) (co : h[x + 325 + 70]? = some (.inr (3, [cv0, cv1, .ref (x + 325 + 70 + 67), .int 0]))) (ya : h[x + 325 + 70 + 67]? = some (.inl (.int, 17, .inl yf))) (hb : h[x + 11 + 7]? = some (.inl (.object "WorldEngine$World", 16, .inr (.inr (.inr (.inr (fun j => if j < 16 then some (x + 11 + 8 + 6 * j) else none))))))) : ab_M y_Play_carry { frames := 3, cells := 0, slots := 0, locals := 120 } [.ref (x + 11), .ref a, .ref (x + 325)] h (ab_A none (fun h1 => ab_fr (in_Play0 (x + 11)) h h1)) := by
  have hN0 := hN; obtain ⟨gno, gn7, gn8, gn11, gn12, gn14⟩ := hN
  replace gno : h[x + 11 + 1]? = some (.inr (7, [.int 0, .int 0, .int 0, .int 0, .int 0, .int 0, .int 0, .ref (x + 11 + 1 + 1), .ref (x + 11 + 1 + 2), .int 0, .int 0, .ref (x + 11 + 1 + 3), .ref (x + 11 + 1 + 4), .int 0, .ref (x + 11 + 1 + 5), .int 0])) := gno
  replace gn7 : h[x + 11 + 1 + 1]? = some (.inl (.int, 256, .inl (fun _ => 0))) := gn7
  replace gn8 : h[x + 11 + 1 + 2]? = some (.inl (.int, 256, .inl (a0_World 8))) := gn8
  replace gn11 : h[x + 11 + 1 + 3]? = some (.inl (.int, 12288, .inl (fun _ => 0))) := gn11
  replace gn12 : h[x + 11 + 1 + 4]? = some (.inl (.int, 1792, .inl (fun _ => 0))) := gn12
  replace gn14 : h[x + 11 + 1 + 5]? = some (.inl (.int, 32, .inl (fun _ => 0))) := gn14
  have hS0 := hS; obtain ⟨gso, gs7, gs8, gs11, gs12, gs14⟩ := hS
  replace gso : h[x + 11 + 8]? = some (.inr (7, [.int 0, .int 0, .int 0, .int 0, .int 0, .int 0, .int 0, .ref (x + 11 + 8 + 1), .ref (x + 11 + 8 + 2), .int 0, .int 0, .ref (x + 11 + 8 + 3), .ref (x + 11 + 8 + 4), .int 0, .ref (x + 11 + 8 + 5), .int 0])) := gso
  replace gs7 : h[x + 11 + 8 + 1]? = some (.inl (.int, 256, .inl (fun _ => 0))) := gs7
  replace gs8 : h[x + 11 + 8 + 2]? = some (.inl (.int, 256, .inl (a0_World 8))) := gs8
  replace gs11 : h[x + 11 + 8 + 3]? = some (.inl (.int, 12288, .inl (fun _ => 0))) := gs11
  replace gs12 : h[x + 11 + 8 + 4]? = some (.inl (.int, 1792, .inl (fun _ => 0))) := gs12
  replace gs14 : h[x + 11 + 8 + 5]? = some (.inl (.int, 32, .inl (fun _ => 0))) := gs14
  refine ab_of2 (lv := [some (.ref (x + 11)), some (.ref a), some (.ref (x + 325)), none]) 1 rfl rfl (Nat.le_of_ble_eq_true rfl) ?_
  refine ab_aload_n d_Play_carry_0 rfl rfl rfl ?_
  refine ab_callV_a (As := []) (rest := []) d_Play_carry_1 (r_scratch qo hb) (ab_mkC s_Play_scratch (Nat.le_of_ble_eq_true rfl) (Nat.le_of_ble_eq_true rfl) (by decide) (by decide)) (k6 103 rfl rfl) i_Play_scratch v_Play_scratch qo rfl rfl (Nat.le_of_ble_eq_true rfl) (fun h2 q1 => ?_)
  subst q1
  refine ab_astore_n (lv' := [some (.ref (x + 11)), some (.ref a), some (.ref (x + 325)), some (.ref (x + 11 + 8))]) d_Play_carry_4 rfl (by decide) rfl rfl ?_
  refine ab_aload_n d_Play_carry_5 rfl rfl rfl ?_
  refine ab_aload_n d_Play_carry_6 rfl rfl rfl ?_
  refine ab_get (f := 0) d_Play_carry_7 qo rfl (by decide) (k2 130 rfl rfl) rfl ?_
  refine ab_callV_v (As := [.ref (x + 11 + 1)]) (rest := []) d_Play_carry_10 (c_World_copyFrom (show at_World h (x + 11 + 8) (fun _ => 0) a0_World from ⟨gso, gs7, gs8, gs11, gs12, gs14⟩) (show at_World h (x + 11 + 1) (fun _ => 0) a0_World from ⟨gno, gn7, gn8, gn11, gn12, gn14⟩) (by omega) (by decide) (by decide) (by decide) (by decide) (by decide) (by decide)) (ab_mkC s_World_copyFrom (Nat.le_of_ble_eq_true rfl) (Nat.le_of_ble_eq_true rfl) (by decide) (by decide)) (k6 107 rfl rfl) i_World_copyFrom v_World_copyFrom gso rfl rfl (Nat.le_of_ble_eq_true rfl) (fun h3 q4 => ?_)
  obtain ⟨-, -, f5⟩ := q4
  have c6 : h3[x+11+1]? = some (.inr (7, [.int 0, .int 0, .int 0, .int 0, .int 0, .int 0, .int 0, .ref (x + 11 + 1 + 1), .ref (x + 11 + 1 + 2), .int 0, .int 0, .ref (x + 11 + 1 + 3), .ref (x + 11 + 1 + 4), .int 0, .ref (x + 11 + 1 + 5), .int 0])) := ab_fr_at f5 gno (by simp only [in_World] <;> omega)
  have c7 : h3[x+11+1+1]? = some (.inl (.int, 256, .inl (fun _ => 0))) := ab_fr_at f5 gn7 (by simp only [in_World] <;> omega)
  have c8 : h3[x+11+1+2]? = some (.inl (.int, 256, .inl (a0_World 8))) := ab_fr_at f5 gn8 (by simp only [in_World] <;> omega)
  have c9 : h3[x+11+1+3]? = some (.inl (.int, 12288, .inl (fun _ => 0))) := ab_fr_at f5 gn11 (by simp only [in_World] <;> omega)
  have c10 : h3[x+11+1+4]? = some (.inl (.int, 1792, .inl (fun _ => 0))) := ab_fr_at f5 gn12 (by simp only [in_World] <;> omega)
  have c11 : h3[x+11+1+5]? = some (.inl (.int, 32, .inl (fun _ => 0))) := ab_fr_at f5 gn14 (by simp only [in_World] <;> omega)
  have c12 : h3[x+11]? = some (.inr (10, [.ref (x + 11 + 1), q1, q2, q3, q4, q5, .ref (x + 11 + 7), q7, q8, q9, q10, q11, q12, q13])) := ab_fr_at f5 qo (by simp only [in_World] <;> omega)
  have c13 : h3[x+325]? = some (.inr (4, [gv0, gv1, .ref (x + 325 + 70), gv3, gv4, gv5, gv6, gv7, gv8, gv9, gv10, gv11, gv12, gv13, gv14, gv15, gv16, gv17])) := ab_fr_at f5 go (by simp only [in_World] <;> omega)
  have c14 : h3[x+325+70]? = some (.inr (3, [cv0, cv1, .ref (x + 325 + 70 + 67), .int 0])) := ab_fr_at f5 co (by simp only [in_World] <;> omega)
  have c15 : h3[x+325+70+67]? = some (.inl (.int, 17, .inl yf)) := ab_fr_at f5 ya (by simp only [in_World] <;> omega)
  have c16 : h3[x+11+7]? = some (.inl (.object "WorldEngine$World", 16, .inr (.inr (.inr (.inr (fun j => if j < 16 then some (x + 11 + 8 + 6 * j) else none)))))) := ab_fr_at f5 hb (by simp only [in_World] <;> omega)
  have fr17 : ab_fr (in_Play0 (x + 11)) h h3 := ab_fr_tr (ab_fr_rf _ _) (ab_fr_mono f5 (by intro i hi; simp only [in_Play0, in_World] at * <;> omega))
  clear f5
  refine ab_aload_n d_Play_carry_13 rfl rfl rfl ?_
  refine ab_get (f := 0) d_Play_carry_14 c12 rfl (by decide) (k2 130 rfl rfl) rfl ?_
  refine ab_aload_n d_Play_carry_17 rfl rfl rfl ?_
  refine ab_aload_n d_Play_carry_18 rfl rfl rfl ?_
  refine ab_aload_n d_Play_carry_19 rfl rfl rfl ?_
  refine ab_callV_v (As := [.ref (x + 11 + 8), .ref a, .ref (x + 325)]) (rest := []) d_Play_carry_20 (r_carryFrom c6 c13 c14 c15) (ab_mkC s_World_carryFrom (Nat.le_of_ble_eq_true rfl) (Nat.le_of_ble_eq_true rfl) (by decide) (by decide)) (k6 114 rfl rfl) i_World_carryFrom v_World_carryFrom c6 rfl rfl (Nat.le_of_ble_eq_true rfl) (fun h18 q19 => ?_)
  have f20 := q19
  have c21 : h18[x+11+1+1]? = some (.inl (.int, 256, .inl (fun _ => 0))) := ab_fr_at f20 c7 (by omega)
  have c22 : h18[x+11+1+2]? = some (.inl (.int, 256, .inl (a0_World 8))) := ab_fr_at f20 c8 (by omega)
  have c23 : h18[x+11+1+3]? = some (.inl (.int, 12288, .inl (fun _ => 0))) := ab_fr_at f20 c9 (by omega)
  have c24 : h18[x+11+1+4]? = some (.inl (.int, 1792, .inl (fun _ => 0))) := ab_fr_at f20 c10 (by omega)
  have c25 : h18[x+11+1+5]? = some (.inl (.int, 32, .inl (fun _ => 0))) := ab_fr_at f20 c11 (by omega)
  have c26 : h18[x+11]? = some (.inr (10, [.ref (x + 11 + 1), q1, q2, q3, q4, q5, .ref (x + 11 + 7), q7, q8, q9, q10, q11, q12, q13])) := ab_fr_at f20 c12 (by omega)
  have c27 : h18[x+325]? = some (.inr (4, [gv0, gv1, .ref (x + 325 + 70), gv3, gv4, gv5, gv6, gv7, gv8, gv9, gv10, gv11, gv12, gv13, gv14, gv15, gv16, gv17])) := ab_fr_at f20 c13 (by omega)
  have c28 : h18[x+325+70]? = some (.inr (3, [cv0, cv1, .ref (x + 325 + 70 + 67), .int 0])) := ab_fr_at f20 c14 (by omega)
  have c29 : h18[x+325+70+67]? = some (.inl (.int, 17, .inl yf)) := ab_fr_at f20 c15 (by omega)
  have c30 : h18[x+11+7]? = some (.inl (.object "WorldEngine$World", 16, .inr (.inr (.inr (.inr (fun j => if j < 16 then some (x + 11 + 8 + 6 * j) else none)))))) := ab_fr_at f20 c16 (by omega)
  have fr31 : ab_fr (in_Play0 (x + 11)) h h18 := ab_fr_tr fr17 (ab_fr_mono f20 (by intro i hi; simp only [in_Play0] at * <;> omega))
  clear c7 c8 c9 c10 c11 c12 c13 c14 c15 c16 f20 fr17
  try clear h3
  exact ab_vret d_Play_carry_23 rfl (Nat.le_refl _) (Nat.le_refl _) (by exact ⟨rfl, fr31⟩)
def sq_W_swap  : Int32 := (0)
set_option maxRecDepth 20000 in
set_option maxHeartbeats 2000000 in
theorem f_W_swap {h : List ab_E}           {x : Nat} {w : Int32}           (h0 : at_W0 h x w) : ab_M y_W_swap { frames := 4, cells := 0, slots := 0, locals := 240 } [.ref x] h (ab_A (some (.int (sq_W_swap ))) (fun h1 => ab_fr (in_lo x) h h1)) := by
  obtain ⟨hW, hL, hRd, hB, ⟨hP, hN, hBe, hWs, hTk, hRw⟩, hSt, ⟨hG, hG1, hGc, hG2, hG3, hGe, hG4, hG5⟩, ⟨hH, hH1, hHc, hH2, hH3, hHe, hH4, hH5⟩⟩ := h0
  have hW0 := hW; have gwo := hW
  replace gwo : h[x]? = some (.inr (0, [.ref (x + 1), .ref (x + 8), .ref (x + 11), .ref (x + 131), .ref (x + 133), .ref (x + 325), .int 0, .int (s0_W w 7), .int 0])) := gwo
  have hL0 := hL; obtain ⟨glo, gl0, gl6, gl7, gl8, gl9, gl12⟩ := hL
  replace glo : h[x + 1]? = some (.inr (1, [.ref (x + 1 + 1), .int 0, .int 0, .int 0, .int 0, .int 0, .ref (x + 1 + 2), .ref (x + 1 + 3), .ref (x + 1 + 4), .ref (x + 1 + 5), .int 0, .int 0, .ref (x + 1 + 6)])) := glo
  replace gl0 : h[x + 1 + 1]? = some (.inl (.byte, 6000, .inl (fun _ => 0))) := gl0
  replace gl6 : h[x + 1 + 2]? = some (.inl (.int, 6001, .inl (fun _ => 0))) := gl6
  replace gl7 : h[x + 1 + 3]? = some (.inl (.int, 6001, .inl (fun _ => 0))) := gl7
  replace gl8 : h[x + 1 + 4]? = some (.inl (.int, 6001, .inl (fun _ => 0))) := gl8
  replace gl9 : h[x + 1 + 5]? = some (.inl (.boolean, 6001, .inl (fun _ => 0))) := gl9
  replace gl12 : h[x + 1 + 6]? = some (.inl (.int, 42, .inl (a0_Lexer 12))) := gl12
  have hP0 := hP; obtain ⟨gpo, gp4, gp8, gp9, gp10, gp11, gp12, gp13⟩ := hP
  replace gpo : h[x + 11]? = some (.inr (10, [.ref (x + 11 + 1), .int 0, .int 1, .int 0, .ref (x + 11 + 104), .int 0, .ref (x + 11 + 7), .ref (x + 11 + 105), .ref (x + 11 + 114), .ref (x + 11 + 115), .ref (x + 11 + 116), .ref (x + 11 + 117), .ref (x + 11 + 118), .ref (x + 11 + 119)])) := gpo
  replace gp4 : h[x + 11 + 104]? = some (.inl (.int, 256, .inl (fun _ => 0))) := gp4
  replace gp8 : h[x + 11 + 114]? = some (.inl (.boolean, 256, .inl (fun _ => 0))) := gp8
  replace gp9 : h[x + 11 + 115]? = some (.inl (.int, 256, .inl (fun _ => 0))) := gp9
  replace gp10 : h[x + 11 + 116]? = some (.inl (.int, 4, .inl (fun _ => 0))) := gp10
  replace gp11 : h[x + 11 + 117]? = some (.inl (.int, 16, .inl (fun _ => 0))) := gp11
  replace gp12 : h[x + 11 + 118]? = some (.inl (.int, 64, .inl (fun _ => 0))) := gp12
  replace gp13 : h[x + 11 + 119]? = some (.inl (.int, 4, .inl (fun _ => 0))) := gp13
  have hN0 := hN; obtain ⟨gno, gn7, gn8, gn11, gn12, gn14⟩ := hN
  replace gno : h[x + 11 + 1]? = some (.inr (7, [.int 0, .int 0, .int 0, .int 0, .int 0, .int 0, .int 0, .ref (x + 11 + 1 + 1), .ref (x + 11 + 1 + 2), .int 0, .int 0, .ref (x + 11 + 1 + 3), .ref (x + 11 + 1 + 4), .int 0, .ref (x + 11 + 1 + 5), .int 0])) := gno
  replace gn7 : h[x + 11 + 1 + 1]? = some (.inl (.int, 256, .inl (fun _ => 0))) := gn7
  replace gn8 : h[x + 11 + 1 + 2]? = some (.inl (.int, 256, .inl (a0_World 8))) := gn8
  replace gn11 : h[x + 11 + 1 + 3]? = some (.inl (.int, 12288, .inl (fun _ => 0))) := gn11
  replace gn12 : h[x + 11 + 1 + 4]? = some (.inl (.int, 1792, .inl (fun _ => 0))) := gn12
  replace gn14 : h[x + 11 + 1 + 5]? = some (.inl (.int, 32, .inl (fun _ => 0))) := gn14
  have hH0 := hH; obtain ⟨gho, gh5, gh6, gh8, gh9, gh10, gh11, gh12, gh13, gh14, gh16⟩ := hH
  replace gho : h[x + 325]? = some (.inr (4, [.ref (x + 325 + 1), .int 0, .ref (x + 325 + 70), .ref (x + 325 + 138), .int 0, .ref (x + 325 + 182), .ref (x + 325 + 183), .int 0, .ref (x + 325 + 184), .ref (x + 325 + 185), .ref (x + 325 + 186), .ref (x + 325 + 187), .ref (x + 325 + 188), .ref (x + 325 + 189), .ref (x + 325 + 190), .int 0, .ref (x + 325 + 191), .int 0])) := gho
  replace gh5 : h[x + 325 + 182]? = some (.inl (.int, 16, .inl (fun _ => 0))) := gh5
  replace gh6 : h[x + 325 + 183]? = some (.inl (.int, 768, .inl (fun _ => 0))) := gh6
  replace gh8 : h[x + 325 + 184]? = some (.inl (.int, 16, .inl (fun _ => 0))) := gh8
  replace gh9 : h[x + 325 + 185]? = some (.inl (.int, 16, .inl (fun _ => 0))) := gh9
  replace gh10 : h[x + 325 + 186]? = some (.inl (.int, 16, .inl (fun _ => 0))) := gh10
  replace gh11 : h[x + 325 + 187]? = some (.inl (.int, 16, .inl (fun _ => 0))) := gh11
  replace gh12 : h[x + 325 + 188]? = some (.inl (.int, 16, .inl (fun _ => 0))) := gh12
  replace gh13 : h[x + 325 + 189]? = some (.inl (.int, 16, .inl (fun _ => 0))) := gh13
  replace gh14 : h[x + 325 + 190]? = some (.inl (.int, 16, .inl (fun _ => 0))) := gh14
  replace gh16 : h[x + 325 + 191]? = some (.inl (.int, 12000, .inl (fun _ => 0))) := gh16
  have hHc0 := hHc; obtain ⟨gdo, gd2⟩ := hHc
  replace gdo : h[x + 325 + 70]? = some (.inr (3, [.ref (x + 325 + 70 + 1), .ref (x + 325 + 70 + 18), .ref (x + 325 + 70 + 67), .int 0])) := gdo
  replace gd2 : h[x + 325 + 70 + 67]? = some (.inl (.int, 17, .inl (fun _ => 0))) := gd2
  have hHe0 := hHe; obtain ⟨gfo, gf2⟩ := hHe
  replace gfo : h[x + 325 + 138]? = some (.inr (3, [.ref (x + 325 + 138 + 1), .ref (x + 325 + 138 + 10), .ref (x + 325 + 138 + 43), .int 0])) := gfo
  replace gf2 : h[x + 325 + 138 + 43]? = some (.inl (.int, 9, .inl (fun _ => 0))) := gf2
  have hRd0 := hRd; have gro := hRd
  replace gro : h[x + 8]? = some (.inr (5, [.ref (x + 1), .ref (x + 8 + 1), .null])) := gro
  have hS : at_World h (x + 11 + 8) (fun _ => 0) a0_World := hWs 0 (by decide)
  have hS0 := hS; obtain ⟨gso, gs7, gs8, gs11, gs12, gs14⟩ := hS
  replace gso : h[x + 11 + 8]? = some (.inr (7, [.int 0, .int 0, .int 0, .int 0, .int 0, .int 0, .int 0, .ref (x + 11 + 8 + 1), .ref (x + 11 + 8 + 2), .int 0, .int 0, .ref (x + 11 + 8 + 3), .ref (x + 11 + 8 + 4), .int 0, .ref (x + 11 + 8 + 5), .int 0])) := gso
  replace gs7 : h[x + 11 + 8 + 1]? = some (.inl (.int, 256, .inl (fun _ => 0))) := gs7
  replace gs8 : h[x + 11 + 8 + 2]? = some (.inl (.int, 256, .inl (a0_World 8))) := gs8
  replace gs11 : h[x + 11 + 8 + 3]? = some (.inl (.int, 12288, .inl (fun _ => 0))) := gs11
  replace gs12 : h[x + 11 + 8 + 4]? = some (.inl (.int, 1792, .inl (fun _ => 0))) := gs12
  replace gs14 : h[x + 11 + 8 + 5]? = some (.inl (.int, 32, .inl (fun _ => 0))) := gs14
  replace hBe : h[x + 11 + 7]? = some (.inl (.object "WorldEngine$World", 16, .inr (.inr (.inr (.inr (fun j => if j < 16 then some (x + 11 + 8 + 6 * j) else none)))))) := hBe
  refine ab_of2 (lv := [some (.ref x)]) 0 rfl rfl (Nat.le_of_ble_eq_true rfl) ?_
  refine ab_aload_n d_W_swap_0 rfl rfl rfl ?_
  refine ab_get (f := 2) d_W_swap_1 gwo rfl (by decide) (k3 159 rfl rfl) rfl ?_
  refine ab_callV_a (As := []) (rest := []) d_W_swap_4 (r_Play_isQuiet gpo gno) (ab_mkC s_Play_isQuiet (Nat.le_of_ble_eq_true rfl) (Nat.le_of_ble_eq_true rfl) (by decide) (by decide)) (k6 95 rfl rfl) i_Play_isQuiet v_Play_isQuiet gpo rfl rfl (Nat.le_of_ble_eq_true rfl) (fun h2 q1 => ?_)
  subst q1
  refine ab_if_ne (tgt := 13) d_W_swap_7 (by decide) (fun q3 => ?_) (fun q3 => by exact absurd q3 (by decide))
  refine ab_aload_n d_W_swap_13 rfl rfl rfl ?_
  refine ab_get (f := 1) d_W_swap_14 gwo rfl (by decide) (k3 158 rfl rfl) rfl ?_
  refine ab_aload_n d_W_swap_17 rfl rfl rfl ?_
  refine ab_get (f := 5) d_W_swap_18 gwo rfl (by decide) (k3 162 rfl rfl) rfl ?_
  refine ab_callV_a (As := [.ref (x + 325)]) (rest := []) d_W_swap_21 (r_readAll gro glo gl6 gl7 gl8 gl9 gho gdo gfo gd2 gf2) (ab_mkC s_Reader_readAll (Nat.le_of_ble_eq_true rfl) (Nat.le_of_ble_eq_true rfl) (by decide) (by decide)) (k3 205 rfl rfl) i_Reader_readAll v_Reader_readAll gro rfl rfl (Nat.le_of_ble_eq_true rfl) (fun h4 q5 => ?_)
  obtain ⟨y13, y14, c7, c8, c9, c10, c11, c12, f6⟩ := q5
  have c15 : h4[x]? = some (.inr (0, [.ref (x + 1), .ref (x + 8), .ref (x + 11), .ref (x + 131), .ref (x + 133), .ref (x + 325), .int 0, .int (s0_W w 7), .int 0])) := ab_fr_at f6 gwo (by omega)
  have c16 : h4[x+1+1]? = some (.inl (.byte, 6000, .inl (fun _ => 0))) := ab_fr_at f6 gl0 (by omega)
  have c17 : h4[x+1+6]? = some (.inl (.int, 42, .inl (a0_Lexer 12))) := ab_fr_at f6 gl12 (by omega)
  have c18 : h4[x+11]? = some (.inr (10, [.ref (x + 11 + 1), .int 0, .int 1, .int 0, .ref (x + 11 + 104), .int 0, .ref (x + 11 + 7), .ref (x + 11 + 105), .ref (x + 11 + 114), .ref (x + 11 + 115), .ref (x + 11 + 116), .ref (x + 11 + 117), .ref (x + 11 + 118), .ref (x + 11 + 119)])) := ab_fr_at f6 gpo (by omega)
  have c19 : h4[x+11+104]? = some (.inl (.int, 256, .inl (fun _ => 0))) := ab_fr_at f6 gp4 (by omega)
  have c20 : h4[x+11+114]? = some (.inl (.boolean, 256, .inl (fun _ => 0))) := ab_fr_at f6 gp8 (by omega)
  have c21 : h4[x+11+115]? = some (.inl (.int, 256, .inl (fun _ => 0))) := ab_fr_at f6 gp9 (by omega)
  have c22 : h4[x+11+116]? = some (.inl (.int, 4, .inl (fun _ => 0))) := ab_fr_at f6 gp10 (by omega)
  have c23 : h4[x+11+117]? = some (.inl (.int, 16, .inl (fun _ => 0))) := ab_fr_at f6 gp11 (by omega)
  have c24 : h4[x+11+118]? = some (.inl (.int, 64, .inl (fun _ => 0))) := ab_fr_at f6 gp12 (by omega)
  have c25 : h4[x+11+119]? = some (.inl (.int, 4, .inl (fun _ => 0))) := ab_fr_at f6 gp13 (by omega)
  have c26 : h4[x+11+1]? = some (.inr (7, [.int 0, .int 0, .int 0, .int 0, .int 0, .int 0, .int 0, .ref (x + 11 + 1 + 1), .ref (x + 11 + 1 + 2), .int 0, .int 0, .ref (x + 11 + 1 + 3), .ref (x + 11 + 1 + 4), .int 0, .ref (x + 11 + 1 + 5), .int 0])) := ab_fr_at f6 gno (by omega)
  have c27 : h4[x+11+1+1]? = some (.inl (.int, 256, .inl (fun _ => 0))) := ab_fr_at f6 gn7 (by omega)
  have c28 : h4[x+11+1+2]? = some (.inl (.int, 256, .inl (a0_World 8))) := ab_fr_at f6 gn8 (by omega)
  have c29 : h4[x+11+1+3]? = some (.inl (.int, 12288, .inl (fun _ => 0))) := ab_fr_at f6 gn11 (by omega)
  have c30 : h4[x+11+1+4]? = some (.inl (.int, 1792, .inl (fun _ => 0))) := ab_fr_at f6 gn12 (by omega)
  have c31 : h4[x+11+1+5]? = some (.inl (.int, 32, .inl (fun _ => 0))) := ab_fr_at f6 gn14 (by omega)
  have c32 : h4[x+325+182]? = some (.inl (.int, 16, .inl (fun _ => 0))) := ab_fr_at f6 gh5 (by omega)
  have c33 : h4[x+325+183]? = some (.inl (.int, 768, .inl (fun _ => 0))) := ab_fr_at f6 gh6 (by omega)
  have c34 : h4[x+325+184]? = some (.inl (.int, 16, .inl (fun _ => 0))) := ab_fr_at f6 gh8 (by omega)
  have c35 : h4[x+325+185]? = some (.inl (.int, 16, .inl (fun _ => 0))) := ab_fr_at f6 gh9 (by omega)
  have c36 : h4[x+325+186]? = some (.inl (.int, 16, .inl (fun _ => 0))) := ab_fr_at f6 gh10 (by omega)
  have c37 : h4[x+325+187]? = some (.inl (.int, 16, .inl (fun _ => 0))) := ab_fr_at f6 gh11 (by omega)
  have c38 : h4[x+325+188]? = some (.inl (.int, 16, .inl (fun _ => 0))) := ab_fr_at f6 gh12 (by omega)
  have c39 : h4[x+325+189]? = some (.inl (.int, 16, .inl (fun _ => 0))) := ab_fr_at f6 gh13 (by omega)
  have c40 : h4[x+325+190]? = some (.inl (.int, 16, .inl (fun _ => 0))) := ab_fr_at f6 gh14 (by omega)
  have c41 : h4[x+325+191]? = some (.inl (.int, 12000, .inl (fun _ => 0))) := ab_fr_at f6 gh16 (by omega)
  have c42 : h4[x+11+8]? = some (.inr (7, [.int 0, .int 0, .int 0, .int 0, .int 0, .int 0, .int 0, .ref (x + 11 + 8 + 1), .ref (x + 11 + 8 + 2), .int 0, .int 0, .ref (x + 11 + 8 + 3), .ref (x + 11 + 8 + 4), .int 0, .ref (x + 11 + 8 + 5), .int 0])) := ab_fr_at f6 gso (by omega)
  have c43 : h4[x+11+8+1]? = some (.inl (.int, 256, .inl (fun _ => 0))) := ab_fr_at f6 gs7 (by omega)
  have c44 : h4[x+11+8+2]? = some (.inl (.int, 256, .inl (a0_World 8))) := ab_fr_at f6 gs8 (by omega)
  have c45 : h4[x+11+8+3]? = some (.inl (.int, 12288, .inl (fun _ => 0))) := ab_fr_at f6 gs11 (by omega)
  have c46 : h4[x+11+8+4]? = some (.inl (.int, 1792, .inl (fun _ => 0))) := ab_fr_at f6 gs12 (by omega)
  have c47 : h4[x+11+8+5]? = some (.inl (.int, 32, .inl (fun _ => 0))) := ab_fr_at f6 gs14 (by omega)
  have c48 : h4[x+11+7]? = some (.inl (.object "WorldEngine$World", 16, .inr (.inr (.inr (.inr (fun j => if j < 16 then some (x + 11 + 8 + 6 * j) else none)))))) := ab_fr_at f6 hBe (by omega)
  have fr49 : ab_fr (in_lo x) h h4 := ab_fr_tr (ab_fr_rf _ _) (ab_fr_mono f6 (by intro i hi; simp only [in_lo] at * <;> omega))
  clear f6
  replace c7 : h4[x+1]? = some (.inr (1, [.ref (x + 1 + 1), .int 0, .int 0, .int 0, .int 0, .int 0, .ref (x + 1 + 2), .ref (x + 1 + 3), .ref (x + 1 + 4), .ref (x + 1 + 5), .int 1, .int 0, .ref (x + 1 + 6)])) := c7
  replace c8 : h4[x+325]? = some (.inr (4, [.ref (x + 325 + 1), .int 0, .ref (x + 325 + 70), .ref (x + 325 + 138), .int 0, .ref (x + 325 + 182), .ref (x + 325 + 183), .int 0, .ref (x + 325 + 184), .ref (x + 325 + 185), .ref (x + 325 + 186), .ref (x + 325 + 187), .ref (x + 325 + 188), .ref (x + 325 + 189), .ref (x + 325 + 190), .int 0, .ref (x + 325 + 191), .int 0])) := c8
  replace c9 : h4[x+325+70]? = some (.inr (3, [.ref (x + 325 + 70 + 1), .ref (x + 325 + 70 + 18), .ref (x + 325 + 70 + 67), .int 0])) := c9
  replace c10 : h4[x+325+138]? = some (.inr (3, [.ref (x + 325 + 138 + 1), .ref (x + 325 + 138 + 10), .ref (x + 325 + 138 + 43), .int 0])) := c10
  replace c11 : h4[x+325+70+67]? = some (.inl (.int, 17, .inl y13)) := c11
  replace c12 : h4[x+325+138+43]? = some (.inl (.int, 9, .inl y14)) := c12
  refine ab_if_ne (tgt := 36) d_W_swap_24 (by decide) (fun q50 => ?_) (fun q50 => by exact absurd q50 (by decide))
  refine ab_aload_n d_W_swap_36 rfl rfl rfl ?_
  refine ab_callV_v (As := []) (rest := []) d_W_swap_37 (r_exch c15) (ab_mkC s_W_exchangePrograms (Nat.le_of_ble_eq_true rfl) (Nat.le_of_ble_eq_true rfl) (by decide) (by decide)) (k6 69 rfl rfl) i_W_exchangePrograms v_W_exchangePrograms c15 rfl rfl (Nat.le_of_ble_eq_true rfl) (fun h51 q52 => ?_)
  obtain ⟨c54, f53⟩ := q52
  have c55 : h51[x+1+1]? = some (.inl (.byte, 6000, .inl (fun _ => 0))) := ab_fr_at f53 c16 (by omega)
  have c56 : h51[x+1+6]? = some (.inl (.int, 42, .inl (a0_Lexer 12))) := ab_fr_at f53 c17 (by omega)
  have c57 : h51[x+11]? = some (.inr (10, [.ref (x + 11 + 1), .int 0, .int 1, .int 0, .ref (x + 11 + 104), .int 0, .ref (x + 11 + 7), .ref (x + 11 + 105), .ref (x + 11 + 114), .ref (x + 11 + 115), .ref (x + 11 + 116), .ref (x + 11 + 117), .ref (x + 11 + 118), .ref (x + 11 + 119)])) := ab_fr_at f53 c18 (by omega)
  have c58 : h51[x+11+104]? = some (.inl (.int, 256, .inl (fun _ => 0))) := ab_fr_at f53 c19 (by omega)
  have c59 : h51[x+11+114]? = some (.inl (.boolean, 256, .inl (fun _ => 0))) := ab_fr_at f53 c20 (by omega)
  have c60 : h51[x+11+115]? = some (.inl (.int, 256, .inl (fun _ => 0))) := ab_fr_at f53 c21 (by omega)
  have c61 : h51[x+11+116]? = some (.inl (.int, 4, .inl (fun _ => 0))) := ab_fr_at f53 c22 (by omega)
  have c62 : h51[x+11+117]? = some (.inl (.int, 16, .inl (fun _ => 0))) := ab_fr_at f53 c23 (by omega)
  have c63 : h51[x+11+118]? = some (.inl (.int, 64, .inl (fun _ => 0))) := ab_fr_at f53 c24 (by omega)
  have c64 : h51[x+11+119]? = some (.inl (.int, 4, .inl (fun _ => 0))) := ab_fr_at f53 c25 (by omega)
  have c65 : h51[x+11+1]? = some (.inr (7, [.int 0, .int 0, .int 0, .int 0, .int 0, .int 0, .int 0, .ref (x + 11 + 1 + 1), .ref (x + 11 + 1 + 2), .int 0, .int 0, .ref (x + 11 + 1 + 3), .ref (x + 11 + 1 + 4), .int 0, .ref (x + 11 + 1 + 5), .int 0])) := ab_fr_at f53 c26 (by omega)
  have c66 : h51[x+11+1+1]? = some (.inl (.int, 256, .inl (fun _ => 0))) := ab_fr_at f53 c27 (by omega)
  have c67 : h51[x+11+1+2]? = some (.inl (.int, 256, .inl (a0_World 8))) := ab_fr_at f53 c28 (by omega)
  have c68 : h51[x+11+1+3]? = some (.inl (.int, 12288, .inl (fun _ => 0))) := ab_fr_at f53 c29 (by omega)
  have c69 : h51[x+11+1+4]? = some (.inl (.int, 1792, .inl (fun _ => 0))) := ab_fr_at f53 c30 (by omega)
  have c70 : h51[x+11+1+5]? = some (.inl (.int, 32, .inl (fun _ => 0))) := ab_fr_at f53 c31 (by omega)
  have c71 : h51[x+325+182]? = some (.inl (.int, 16, .inl (fun _ => 0))) := ab_fr_at f53 c32 (by omega)
  have c72 : h51[x+325+183]? = some (.inl (.int, 768, .inl (fun _ => 0))) := ab_fr_at f53 c33 (by omega)
  have c73 : h51[x+325+184]? = some (.inl (.int, 16, .inl (fun _ => 0))) := ab_fr_at f53 c34 (by omega)
  have c74 : h51[x+325+185]? = some (.inl (.int, 16, .inl (fun _ => 0))) := ab_fr_at f53 c35 (by omega)
  have c75 : h51[x+325+186]? = some (.inl (.int, 16, .inl (fun _ => 0))) := ab_fr_at f53 c36 (by omega)
  have c76 : h51[x+325+187]? = some (.inl (.int, 16, .inl (fun _ => 0))) := ab_fr_at f53 c37 (by omega)
  have c77 : h51[x+325+188]? = some (.inl (.int, 16, .inl (fun _ => 0))) := ab_fr_at f53 c38 (by omega)
  have c78 : h51[x+325+189]? = some (.inl (.int, 16, .inl (fun _ => 0))) := ab_fr_at f53 c39 (by omega)
  have c79 : h51[x+325+190]? = some (.inl (.int, 16, .inl (fun _ => 0))) := ab_fr_at f53 c40 (by omega)
  have c80 : h51[x+325+191]? = some (.inl (.int, 12000, .inl (fun _ => 0))) := ab_fr_at f53 c41 (by omega)
  have c81 : h51[x+11+8]? = some (.inr (7, [.int 0, .int 0, .int 0, .int 0, .int 0, .int 0, .int 0, .ref (x + 11 + 8 + 1), .ref (x + 11 + 8 + 2), .int 0, .int 0, .ref (x + 11 + 8 + 3), .ref (x + 11 + 8 + 4), .int 0, .ref (x + 11 + 8 + 5), .int 0])) := ab_fr_at f53 c42 (by omega)
  have c82 : h51[x+11+8+1]? = some (.inl (.int, 256, .inl (fun _ => 0))) := ab_fr_at f53 c43 (by omega)
  have c83 : h51[x+11+8+2]? = some (.inl (.int, 256, .inl (a0_World 8))) := ab_fr_at f53 c44 (by omega)
  have c84 : h51[x+11+8+3]? = some (.inl (.int, 12288, .inl (fun _ => 0))) := ab_fr_at f53 c45 (by omega)
  have c85 : h51[x+11+8+4]? = some (.inl (.int, 1792, .inl (fun _ => 0))) := ab_fr_at f53 c46 (by omega)
  have c86 : h51[x+11+8+5]? = some (.inl (.int, 32, .inl (fun _ => 0))) := ab_fr_at f53 c47 (by omega)
  have c87 : h51[x+11+7]? = some (.inl (.object "WorldEngine$World", 16, .inr (.inr (.inr (.inr (fun j => if j < 16 then some (x + 11 + 8 + 6 * j) else none)))))) := ab_fr_at f53 c48 (by omega)
  have c88 : h51[x+1]? = some (.inr (1, [.ref (x + 1 + 1), .int 0, .int 0, .int 0, .int 0, .int 0, .ref (x + 1 + 2), .ref (x + 1 + 3), .ref (x + 1 + 4), .ref (x + 1 + 5), .int 1, .int 0, .ref (x + 1 + 6)])) := ab_fr_at f53 c7 (by omega)
  have c89 : h51[x+325]? = some (.inr (4, [.ref (x + 325 + 1), .int 0, .ref (x + 325 + 70), .ref (x + 325 + 138), .int 0, .ref (x + 325 + 182), .ref (x + 325 + 183), .int 0, .ref (x + 325 + 184), .ref (x + 325 + 185), .ref (x + 325 + 186), .ref (x + 325 + 187), .ref (x + 325 + 188), .ref (x + 325 + 189), .ref (x + 325 + 190), .int 0, .ref (x + 325 + 191), .int 0])) := ab_fr_at f53 c8 (by omega)
  have c90 : h51[x+325+70]? = some (.inr (3, [.ref (x + 325 + 70 + 1), .ref (x + 325 + 70 + 18), .ref (x + 325 + 70 + 67), .int 0])) := ab_fr_at f53 c9 (by omega)
  have c91 : h51[x+325+138]? = some (.inr (3, [.ref (x + 325 + 138 + 1), .ref (x + 325 + 138 + 10), .ref (x + 325 + 138 + 43), .int 0])) := ab_fr_at f53 c10 (by omega)
  have c92 : h51[x+325+70+67]? = some (.inl (.int, 17, .inl y13)) := ab_fr_at f53 c11 (by omega)
  have c93 : h51[x+325+138+43]? = some (.inl (.int, 9, .inl y14)) := ab_fr_at f53 c12 (by omega)
  have fr94 : ab_fr (in_lo x) h h51 := ab_fr_tr fr49 (ab_fr_mono f53 (by intro i hi; simp only [in_lo] at * <;> omega))
  clear c15 c16 c17 c18 c19 c20 c21 c22 c23 c24 c25 c26 c27 c28 c29 c30 c31 c32 c33 c34 c35 c36 c37 c38 c39 c40 c41 c42 c43 c44 c45 c46 c47 c48 c7 c8 c9 c10 c11 c12 f53 fr49
  try clear h4
  replace c54 : h51[x]? = some (.inr (0, [.ref (x + 1), .ref (x + 8), .ref (x + 11), .ref (x + 131), .ref (x + 325), .ref (x + 133), .int 1, .int (s0_W w 7), .int 0])) := c54
  refine ab_aload_n d_W_swap_40 rfl rfl rfl ?_
  refine ab_get (f := 2) d_W_swap_41 c54 rfl (by decide) (k3 159 rfl rfl) rfl ?_
  refine ab_aload_n d_W_swap_44 rfl rfl rfl ?_
  refine ab_get (f := 5) d_W_swap_45 c54 rfl (by decide) (k3 162 rfl rfl) rfl ?_
  refine ab_aload_n d_W_swap_48 rfl rfl rfl ?_
  refine ab_get (f := 4) d_W_swap_49 c54 rfl (by decide) (k3 161 rfl rfl) rfl ?_
  refine ab_callV_v (As := [.ref (x + 133), .ref (x + 325)]) (rest := []) d_W_swap_52 (r_Play_carry (show at_World h51 (x + 11 + 1) (fun _ => 0) a0_World from ⟨c65, c66, c67, c68, c69, c70⟩) (show at_World h51 (x + 11 + 8) (fun _ => 0) a0_World from ⟨c81, c82, c83, c84, c85, c86⟩) c57 c89 c90 c92 c87) (ab_mkC s_Play_carry (Nat.le_of_ble_eq_true rfl) (Nat.le_of_ble_eq_true rfl) (by decide) (by decide)) (k6 99 rfl rfl) i_Play_carry v_Play_carry c57 rfl rfl (Nat.le_of_ble_eq_true rfl) (fun h95 q96 => ?_)
  have f97 := q96
  have c98 : h95[x+1+1]? = some (.inl (.byte, 6000, .inl (fun _ => 0))) := ab_fr_at f97 c55 (by simp only [in_Play0] <;> omega)
  have c99 : h95[x+1+6]? = some (.inl (.int, 42, .inl (a0_Lexer 12))) := ab_fr_at f97 c56 (by simp only [in_Play0] <;> omega)
  have c100 : h95[x+325+182]? = some (.inl (.int, 16, .inl (fun _ => 0))) := ab_fr_at f97 c71 (by simp only [in_Play0] <;> omega)
  have c101 : h95[x+325+183]? = some (.inl (.int, 768, .inl (fun _ => 0))) := ab_fr_at f97 c72 (by simp only [in_Play0] <;> omega)
  have c102 : h95[x+325+184]? = some (.inl (.int, 16, .inl (fun _ => 0))) := ab_fr_at f97 c73 (by simp only [in_Play0] <;> omega)
  have c103 : h95[x+325+185]? = some (.inl (.int, 16, .inl (fun _ => 0))) := ab_fr_at f97 c74 (by simp only [in_Play0] <;> omega)
  have c104 : h95[x+325+186]? = some (.inl (.int, 16, .inl (fun _ => 0))) := ab_fr_at f97 c75 (by simp only [in_Play0] <;> omega)
  have c105 : h95[x+325+187]? = some (.inl (.int, 16, .inl (fun _ => 0))) := ab_fr_at f97 c76 (by simp only [in_Play0] <;> omega)
  have c106 : h95[x+325+188]? = some (.inl (.int, 16, .inl (fun _ => 0))) := ab_fr_at f97 c77 (by simp only [in_Play0] <;> omega)
  have c107 : h95[x+325+189]? = some (.inl (.int, 16, .inl (fun _ => 0))) := ab_fr_at f97 c78 (by simp only [in_Play0] <;> omega)
  have c108 : h95[x+325+190]? = some (.inl (.int, 16, .inl (fun _ => 0))) := ab_fr_at f97 c79 (by simp only [in_Play0] <;> omega)
  have c109 : h95[x+325+191]? = some (.inl (.int, 12000, .inl (fun _ => 0))) := ab_fr_at f97 c80 (by simp only [in_Play0] <;> omega)
  have c110 : h95[x+1]? = some (.inr (1, [.ref (x + 1 + 1), .int 0, .int 0, .int 0, .int 0, .int 0, .ref (x + 1 + 2), .ref (x + 1 + 3), .ref (x + 1 + 4), .ref (x + 1 + 5), .int 1, .int 0, .ref (x + 1 + 6)])) := ab_fr_at f97 c88 (by simp only [in_Play0] <;> omega)
  have c111 : h95[x+325]? = some (.inr (4, [.ref (x + 325 + 1), .int 0, .ref (x + 325 + 70), .ref (x + 325 + 138), .int 0, .ref (x + 325 + 182), .ref (x + 325 + 183), .int 0, .ref (x + 325 + 184), .ref (x + 325 + 185), .ref (x + 325 + 186), .ref (x + 325 + 187), .ref (x + 325 + 188), .ref (x + 325 + 189), .ref (x + 325 + 190), .int 0, .ref (x + 325 + 191), .int 0])) := ab_fr_at f97 c89 (by simp only [in_Play0] <;> omega)
  have c112 : h95[x+325+70]? = some (.inr (3, [.ref (x + 325 + 70 + 1), .ref (x + 325 + 70 + 18), .ref (x + 325 + 70 + 67), .int 0])) := ab_fr_at f97 c90 (by simp only [in_Play0] <;> omega)
  have c113 : h95[x+325+138]? = some (.inr (3, [.ref (x + 325 + 138 + 1), .ref (x + 325 + 138 + 10), .ref (x + 325 + 138 + 43), .int 0])) := ab_fr_at f97 c91 (by simp only [in_Play0] <;> omega)
  have c114 : h95[x+325+70+67]? = some (.inl (.int, 17, .inl y13)) := ab_fr_at f97 c92 (by simp only [in_Play0] <;> omega)
  have c115 : h95[x+325+138+43]? = some (.inl (.int, 9, .inl y14)) := ab_fr_at f97 c93 (by simp only [in_Play0] <;> omega)
  have c116 : h95[x]? = some (.inr (0, [.ref (x + 1), .ref (x + 8), .ref (x + 11), .ref (x + 131), .ref (x + 325), .ref (x + 133), .int 1, .int (s0_W w 7), .int 0])) := ab_fr_at f97 c54 (by simp only [in_Play0] <;> omega)
  have fr117 : ab_fr (in_lo x) h h95 := ab_fr_tr fr94 (ab_fr_mono f97 (by intro i hi; simp only [in_lo, in_Play0] at * <;> omega))
  clear c55 c56 c71 c72 c73 c74 c75 c76 c77 c78 c79 c80 c88 c89 c90 c91 c92 c93 c54 f97 fr94
  try clear h51
  refine ab_aload_n d_W_swap_55 rfl rfl rfl ?_
  refine ab_get (f := 4) d_W_swap_56 c116 rfl (by decide) (k3 161 rfl rfl) rfl ?_
  refine ab_get (f := 7) d_W_swap_59 c111 rfl (by decide) (k3 82 rfl rfl) rfl ?_
  exact ab_iret d_W_swap_62 rfl (Nat.le_refl _) (Nat.le_refl _) (by unfold sq_W_swap; exact ⟨rfl, fr117⟩)
