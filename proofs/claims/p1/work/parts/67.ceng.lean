def at_Prog0 (h : List ab_E) (b : Nat) : Prop := at_Program h b (fun _ => 0) (fun _ _ => 0) ∧ at_Names h (b + 1) 68 (fun _ => .float 1) (fun _ _ => 0) ∧ at_CSh h (b + 70) (fun _ => 0) (fun _ _ => 0) ∧ at_Names h (b + 71) 16 (fun _ => .float 1) (fun _ _ => 0) ∧ at_Names h (b + 88) 48 (fun _ => .float 1) (fun _ _ => 0) ∧ at_ESh h (b + 138) (fun _ => 0) (fun _ _ => 0) ∧ at_Names h (b + 139) 8 (fun _ => .float 1) (fun _ _ => 0) ∧ at_Names h (b + 148) 32 (fun _ => .float 1) (fun _ _ => 0)
def in_Prog0 (b : Nat) : Nat → Prop := fun i => b ≤ i ∧ i ≤ b + 191
theorem fr_Prog0 {S : Nat → Prop} {h h1 : List ab_E} {b : Nat}  (hf : ab_fr S h h1) (h0 : at_Prog0 h b ) (hn : ∀ i, in_Prog0 b i → ¬ S i) : at_Prog0 h1 b  := by
  obtain ⟨g0, g1, g2, g3, g4, g5, g6, g7⟩ := h0
  exact ⟨fr_Program hf g0 (fun i hi => hn i (by simp only [in_Program] at hi; show _ ∧ _; omega)), fr_Names hf g1 (fun i hi => hn i (by simp only [in_Names] at hi; show _ ∧ _; omega)), fr_CSh hf g2 (fun i hi => hn i (by simp only [in_CSh] at hi; show _ ∧ _; omega)), fr_Names hf g3 (fun i hi => hn i (by simp only [in_Names] at hi; show _ ∧ _; omega)), fr_Names hf g4 (fun i hi => hn i (by simp only [in_Names] at hi; show _ ∧ _; omega)), fr_ESh hf g5 (fun i hi => hn i (by simp only [in_ESh] at hi; show _ ∧ _; omega)), fr_Names hf g6 (fun i hi => hn i (by simp only [in_Names] at hi; show _ ∧ _; omega)), fr_Names hf g7 (fun i hi => hn i (by simp only [in_Names] at hi; show _ ∧ _; omega))⟩
set_option maxRecDepth 20000 in
set_option maxHeartbeats 2000000 in
theorem c_Program_init {h : List ab_E}  {b : Nat}  (ho : h[b]? = some (.inr (4, [.null, .int 0, .null, .null, .int 0, .null, .null, .int 0, .null, .null, .null, .null, .null, .null, .null, .int 0, .null, .int 0]))) (hlen : h.length = b + 1) : ab_M y_Program_init { frames := 4, cells := 191, slots := 13790, locals := 160 } [.ref b] h (ab_A none (fun h1 => at_Prog0 h1 b ∧ h1.length = b + 192 ∧ ab_fr (in_up b) h h1)) := by
  refine ab_of2 (lv := [some (.ref b)]) 0 rfl rfl (Nat.le_of_ble_eq_true rfl) ?_
  refine ab_aload_n d_Program_init_0 rfl rfl rfl ?_
  refine ab_objInit d_Program_init_1 (k2 213 rfl rfl) (k1 37 rfl rfl) (k1 38 rfl rfl) (by decide) (by decide) ?_
  refine ab_aload_n d_Program_init_4 rfl rfl rfl ?_
  refine ab_bipush (v := 68) d_Program_init_5 (by decide) ?_
  refine ab_callS_a (As := [.int 68]) (rest := [.ref b]) d_Program_init_7 (c_Named_rowOf (n := 68) (by decide) hlen) (ab_mkC s_Named_rowOf (Nat.le_of_ble_eq_true rfl) (Nat.le_of_ble_eq_true rfl) (by decide) (by decide)) (k2 214 rfl rfl) t_Named_rowOf rfl (Nat.le_of_ble_eq_true rfl) (fun h1 q2 => ?_)
  obtain ⟨kf3, l4, f5⟩ := q2
  replace l4 : h1.length = b + 70 := l4
  have c6 : h1[b]? = some (.inr (4, [.null, .int 0, .null, .null, .int 0, .null, .null, .int 0, .null, .null, .null, .null, .null, .null, .null, .int 0, .null, .int 0])) := ab_fr_at f5 ho (by simp only [in_up] <;> omega)
  have fr7 : ab_fr (in_up b) h h1 := ab_fr_tr (ab_fr_rf _ _) (ab_fr_mono f5 (by intro i hi; simp only [in_up, in_up] at * <;> omega))
  clear f5
  refine ab_putF (f := 0) d_Program_init_10 c6 rfl (by decide) (k3 53 rfl rfl) rfl rfl rfl rfl (fun _ => rfl) (fun _ => rfl) (Nat.le_of_ble_eq_true rfl) ?_
  show ab_V _ _ _ _ _ _ _ 13 [some (.ref b)] [] (h1.set b (.inr (4, [.ref (b + 1), .int 0, .null, .null, .int 0, .null, .null, .int 0, .null, .null, .null, .null, .null, .null, .null, .int 0, .null, .int 0])))
  refine ab_gen (fun h8 e9 => ?_)
  have c10 : h8[b]? = some (.inr (4, [.ref (b + 1), .int 0, .null, .null, .int 0, .null, .null, .int 0, .null, .null, .null, .null, .null, .null, .null, .int 0, .null, .int 0])) := ab_self e9 c6
  have l11 : h8.length = b + 70 := by rw [e9]; exact List.length_set.trans l4
  have f12 : ab_fr (fun i => i = b) h1 h8 := ab_fr_set (ab_fr_rf _ _) e9 rfl
  have kf13 : at_Names h8 (b + 1) 68 (fun _ => .float 1) (fun _ _ => 0) := fr_Names f12 kf3 (by intro i hi hs; simp only [in_Names] at hi hs <;> omega)
  have fr14 : ab_fr (in_up b) h h8 := ab_fr_set fr7 e9 (by first | (show _ ∧ _; omega) | (show _ ∨ _; omega) | (show _ = _; omega) | (show _ ≤ _; omega))
  clear c6 kf3 l4 fr7 e9 f12
  try clear h1
  refine ab_aload_n d_Program_init_13 rfl rfl rfl ?_
  refine ab_newL (ci := 3) (fs := [.null, .null, .null, .int 0]) l11 d_Program_init_14 rfl (k3 15 rfl rfl) (k3 16 rfl rfl) (k1 18 rfl rfl) rfl rfl (by decide) (by decide) (fun h15 e16 e17 e18 => ?_)
  have c19 : h15[b + 70]? = some (.inr (3, [.null, .null, .null, .int 0])) := e17
  have c20 : h15[b]? = some (.inr (4, [.ref (b + 1), .int 0, .null, .null, .int 0, .null, .null, .int 0, .null, .null, .null, .null, .null, .null, .null, .int 0, .null, .int 0])) := (e18 _ (by omega)).trans c10
  have f21 : ab_fr (fun i => False) h8 h15 := ab_fr_new (ab_fr_rf _ _) e18 e16 l11
  have kf22 : at_Names h15 (b + 1) 68 (fun _ => .float 1) (fun _ _ => 0) := fr_Names f21 kf13 (by intro i hi hs; simp only [in_Names] at hi hs <;> omega)
  have fr23 : ab_fr (in_up b) h h15 := ab_fr_new fr14 e18 e16 l11
  have l24 : h15.length = b + 71 := e16
  clear c10 kf13 e16 e17 e18 f21 l11 fr14
  try clear h8
  refine ab_dup d_Program_init_17 rfl ?_
  refine ab_bipush (v := 16) d_Program_init_18 (by decide) ?_
  refine ab_bipush (v := 48) d_Program_init_20 (by decide) ?_
  refine ab_callI_v (As := [.int 16, .int 48]) (rest := [.ref (b + 70), .ref b]) d_Program_init_22 (c_Shapes_init_16 c19 l24) (ab_mkC s_Shapes_init (Nat.le_of_ble_eq_true rfl) (Nat.le_of_ble_eq_true rfl) (by decide) (by decide)) (k3 17 rfl rfl) i_Shapes_init rfl (k3 19 rfl rfl) rfl (Nat.le_of_ble_eq_true rfl) (fun h25 q26 => ?_)
  obtain ⟨kf27, kf28, kf29, l30, f31⟩ := q26
  replace l30 : h25.length = b + 138 := l30
  have c32 : h25[b]? = some (.inr (4, [.ref (b + 1), .int 0, .null, .null, .int 0, .null, .null, .int 0, .null, .null, .null, .null, .null, .null, .null, .int 0, .null, .int 0])) := ab_fr_at f31 c20 (by simp only [in_up] <;> omega)
  have kf33 : at_Names h25 (b + 1) 68 (fun _ => .float 1) (fun _ _ => 0) := fr_Names f31 kf22 (by intro i hi hs; simp only [in_Names, in_up] at hi hs <;> omega)
  have fr34 : ab_fr (in_up b) h h25 := ab_fr_tr fr23 (ab_fr_mono f31 (by intro i hi; simp only [in_up, in_up] at * <;> omega))
  clear c20 c19 kf22 l24 f31 fr23
  try clear h15
  replace kf27 : at_CSh h25 (b + 70) (fun _ => 0) (fun _ _ => 0) := kf27
  replace kf28 : at_Names h25 ((b + 70) + 1) 16 (fun _ => .float 1) (fun _ _ => 0) := kf28
  replace kf29 : at_Names h25 ((b + 70) + 18) 48 (fun _ => .float 1) (fun _ _ => 0) := kf29
  refine ab_putF (f := 2) d_Program_init_25 c32 rfl (by decide) (k3 55 rfl rfl) rfl rfl rfl rfl (fun _ => rfl) (fun _ => rfl) (Nat.le_of_ble_eq_true rfl) ?_
  show ab_V _ _ _ _ _ _ _ 28 [some (.ref b)] [] (h25.set b (.inr (4, [.ref (b + 1), .int 0, .ref (b + 70), .null, .int 0, .null, .null, .int 0, .null, .null, .null, .null, .null, .null, .null, .int 0, .null, .int 0])))
  refine ab_gen (fun h35 e36 => ?_)
  have c37 : h35[b]? = some (.inr (4, [.ref (b + 1), .int 0, .ref (b + 70), .null, .int 0, .null, .null, .int 0, .null, .null, .null, .null, .null, .null, .null, .int 0, .null, .int 0])) := ab_self e36 c32
  have l38 : h35.length = b + 138 := by rw [e36]; exact List.length_set.trans l30
  have f39 : ab_fr (fun i => i = b) h25 h35 := ab_fr_set (ab_fr_rf _ _) e36 rfl
  have kf40 : at_Names h35 (b + 1) 68 (fun _ => .float 1) (fun _ _ => 0) := fr_Names f39 kf33 (by intro i hi hs; simp only [in_Names] at hi hs <;> omega)
  have kf41 : at_CSh h35 (b + 70) (fun _ => 0) (fun _ _ => 0) := fr_CSh f39 kf27 (by intro i hi hs; simp only [in_CSh] at hi hs <;> omega)
  have kf42 : at_Names h35 ((b + 70) + 1) 16 (fun _ => .float 1) (fun _ _ => 0) := fr_Names f39 kf28 (by intro i hi hs; simp only [in_Names] at hi hs <;> omega)
  have kf43 : at_Names h35 ((b + 70) + 18) 48 (fun _ => .float 1) (fun _ _ => 0) := fr_Names f39 kf29 (by intro i hi hs; simp only [in_Names] at hi hs <;> omega)
  have fr44 : ab_fr (in_up b) h h35 := ab_fr_set fr34 e36 (by first | (show _ ∧ _; omega) | (show _ ∨ _; omega) | (show _ = _; omega) | (show _ ≤ _; omega))
  clear c32 kf33 kf27 kf28 kf29 l30 fr34 e36 f39
  try clear h25
  refine ab_aload_n d_Program_init_28 rfl rfl rfl ?_
  refine ab_newL (ci := 3) (fs := [.null, .null, .null, .int 0]) l38 d_Program_init_29 rfl (k3 15 rfl rfl) (k3 16 rfl rfl) (k1 18 rfl rfl) rfl rfl (by decide) (by decide) (fun h45 e46 e47 e48 => ?_)
  have c49 : h45[b + 138]? = some (.inr (3, [.null, .null, .null, .int 0])) := e47
  have c50 : h45[b]? = some (.inr (4, [.ref (b + 1), .int 0, .ref (b + 70), .null, .int 0, .null, .null, .int 0, .null, .null, .null, .null, .null, .null, .null, .int 0, .null, .int 0])) := (e48 _ (by omega)).trans c37
  have f51 : ab_fr (fun i => False) h35 h45 := ab_fr_new (ab_fr_rf _ _) e48 e46 l38
  have kf52 : at_Names h45 (b + 1) 68 (fun _ => .float 1) (fun _ _ => 0) := fr_Names f51 kf40 (by intro i hi hs; simp only [in_Names] at hi hs <;> omega)
  have kf53 : at_CSh h45 (b + 70) (fun _ => 0) (fun _ _ => 0) := fr_CSh f51 kf41 (by intro i hi hs; simp only [in_CSh] at hi hs <;> omega)
  have kf54 : at_Names h45 ((b + 70) + 1) 16 (fun _ => .float 1) (fun _ _ => 0) := fr_Names f51 kf42 (by intro i hi hs; simp only [in_Names] at hi hs <;> omega)
  have kf55 : at_Names h45 ((b + 70) + 18) 48 (fun _ => .float 1) (fun _ _ => 0) := fr_Names f51 kf43 (by intro i hi hs; simp only [in_Names] at hi hs <;> omega)
  have fr56 : ab_fr (in_up b) h h45 := ab_fr_new fr44 e48 e46 l38
  have l57 : h45.length = b + 139 := e46
  clear c37 kf40 kf41 kf42 kf43 e46 e47 e48 f51 l38 fr44
  try clear h35
  refine ab_dup d_Program_init_32 rfl ?_
  refine ab_bipush (v := 8) d_Program_init_33 (by decide) ?_
  refine ab_bipush (v := 32) d_Program_init_35 (by decide) ?_
  refine ab_callI_v (As := [.int 8, .int 32]) (rest := [.ref (b + 138), .ref b]) d_Program_init_37 (c_Shapes_init_8 c49 l57) (ab_mkC s_Shapes_init (Nat.le_of_ble_eq_true rfl) (Nat.le_of_ble_eq_true rfl) (by decide) (by decide)) (k3 17 rfl rfl) i_Shapes_init rfl (k3 19 rfl rfl) rfl (Nat.le_of_ble_eq_true rfl) (fun h58 q59 => ?_)
  obtain ⟨kf60, kf61, kf62, l63, f64⟩ := q59
  replace l63 : h58.length = b + 182 := l63
  have c65 : h58[b]? = some (.inr (4, [.ref (b + 1), .int 0, .ref (b + 70), .null, .int 0, .null, .null, .int 0, .null, .null, .null, .null, .null, .null, .null, .int 0, .null, .int 0])) := ab_fr_at f64 c50 (by simp only [in_up] <;> omega)
  have kf66 : at_Names h58 (b + 1) 68 (fun _ => .float 1) (fun _ _ => 0) := fr_Names f64 kf52 (by intro i hi hs; simp only [in_Names, in_up] at hi hs <;> omega)
  have kf67 : at_CSh h58 (b + 70) (fun _ => 0) (fun _ _ => 0) := fr_CSh f64 kf53 (by intro i hi hs; simp only [in_CSh, in_up] at hi hs <;> omega)
  have kf68 : at_Names h58 ((b + 70) + 1) 16 (fun _ => .float 1) (fun _ _ => 0) := fr_Names f64 kf54 (by intro i hi hs; simp only [in_Names, in_up] at hi hs <;> omega)
  have kf69 : at_Names h58 ((b + 70) + 18) 48 (fun _ => .float 1) (fun _ _ => 0) := fr_Names f64 kf55 (by intro i hi hs; simp only [in_Names, in_up] at hi hs <;> omega)
  have fr70 : ab_fr (in_up b) h h58 := ab_fr_tr fr56 (ab_fr_mono f64 (by intro i hi; simp only [in_up, in_up] at * <;> omega))
  clear c50 c49 kf52 kf53 kf54 kf55 l57 f64 fr56
  try clear h45
  replace kf60 : at_ESh h58 (b + 138) (fun _ => 0) (fun _ _ => 0) := kf60
  replace kf61 : at_Names h58 ((b + 138) + 1) 8 (fun _ => .float 1) (fun _ _ => 0) := kf61
  replace kf62 : at_Names h58 ((b + 138) + 10) 32 (fun _ => .float 1) (fun _ _ => 0) := kf62
  refine ab_putF (f := 3) d_Program_init_40 c65 rfl (by decide) (k3 62 rfl rfl) rfl rfl rfl rfl (fun _ => rfl) (fun _ => rfl) (Nat.le_of_ble_eq_true rfl) ?_
  show ab_V _ _ _ _ _ _ _ 43 [some (.ref b)] [] (h58.set b (.inr (4, [.ref (b + 1), .int 0, .ref (b + 70), .ref (b + 138), .int 0, .null, .null, .int 0, .null, .null, .null, .null, .null, .null, .null, .int 0, .null, .int 0])))
  refine ab_gen (fun h71 e72 => ?_)
  have c73 : h71[b]? = some (.inr (4, [.ref (b + 1), .int 0, .ref (b + 70), .ref (b + 138), .int 0, .null, .null, .int 0, .null, .null, .null, .null, .null, .null, .null, .int 0, .null, .int 0])) := ab_self e72 c65
  have l74 : h71.length = b + 182 := by rw [e72]; exact List.length_set.trans l63
  have f75 : ab_fr (fun i => i = b) h58 h71 := ab_fr_set (ab_fr_rf _ _) e72 rfl
  have kf76 : at_Names h71 (b + 1) 68 (fun _ => .float 1) (fun _ _ => 0) := fr_Names f75 kf66 (by intro i hi hs; simp only [in_Names] at hi hs <;> omega)
  have kf77 : at_CSh h71 (b + 70) (fun _ => 0) (fun _ _ => 0) := fr_CSh f75 kf67 (by intro i hi hs; simp only [in_CSh] at hi hs <;> omega)
  have kf78 : at_Names h71 ((b + 70) + 1) 16 (fun _ => .float 1) (fun _ _ => 0) := fr_Names f75 kf68 (by intro i hi hs; simp only [in_Names] at hi hs <;> omega)
  have kf79 : at_Names h71 ((b + 70) + 18) 48 (fun _ => .float 1) (fun _ _ => 0) := fr_Names f75 kf69 (by intro i hi hs; simp only [in_Names] at hi hs <;> omega)
  have kf80 : at_ESh h71 (b + 138) (fun _ => 0) (fun _ _ => 0) := fr_ESh f75 kf60 (by intro i hi hs; simp only [in_ESh] at hi hs <;> omega)
  have kf81 : at_Names h71 ((b + 138) + 1) 8 (fun _ => .float 1) (fun _ _ => 0) := fr_Names f75 kf61 (by intro i hi hs; simp only [in_Names] at hi hs <;> omega)
  have kf82 : at_Names h71 ((b + 138) + 10) 32 (fun _ => .float 1) (fun _ _ => 0) := fr_Names f75 kf62 (by intro i hi hs; simp only [in_Names] at hi hs <;> omega)
  have fr83 : ab_fr (in_up b) h h71 := ab_fr_set fr70 e72 (by first | (show _ ∧ _; omega) | (show _ ∨ _; omega) | (show _ = _; omega) | (show _ ≤ _; omega))
  clear c65 kf66 kf67 kf68 kf69 kf60 kf61 kf62 l63 fr70 e72 f75
  try clear h58
  refine ab_aload_n d_Program_init_43 rfl rfl rfl ?_
  refine ab_bipush (v := 16) d_Program_init_44 (by decide) ?_
  refine ab_newaL (N := 16) l74 d_Program_init_46 rfl (k1 143 rfl rfl) tI (Or.inl rfl) (by decide) (by decide) (by decide) (by decide) (by decide) (fun h84 e85 e86 e87 => ?_)
  have c88 : h84[b + 182]? = some (.inl (.int, 16, .inl (fun _ => 0))) := e86
  have c89 : h84[b]? = some (.inr (4, [.ref (b + 1), .int 0, .ref (b + 70), .ref (b + 138), .int 0, .null, .null, .int 0, .null, .null, .null, .null, .null, .null, .null, .int 0, .null, .int 0])) := (e87 _ (by omega)).trans c73
  have f90 : ab_fr (fun i => False) h71 h84 := ab_fr_new (ab_fr_rf _ _) e87 e85 l74
  have kf91 : at_Names h84 (b + 1) 68 (fun _ => .float 1) (fun _ _ => 0) := fr_Names f90 kf76 (by intro i hi hs; simp only [in_Names] at hi hs <;> omega)
  have kf92 : at_CSh h84 (b + 70) (fun _ => 0) (fun _ _ => 0) := fr_CSh f90 kf77 (by intro i hi hs; simp only [in_CSh] at hi hs <;> omega)
  have kf93 : at_Names h84 ((b + 70) + 1) 16 (fun _ => .float 1) (fun _ _ => 0) := fr_Names f90 kf78 (by intro i hi hs; simp only [in_Names] at hi hs <;> omega)
  have kf94 : at_Names h84 ((b + 70) + 18) 48 (fun _ => .float 1) (fun _ _ => 0) := fr_Names f90 kf79 (by intro i hi hs; simp only [in_Names] at hi hs <;> omega)
  have kf95 : at_ESh h84 (b + 138) (fun _ => 0) (fun _ _ => 0) := fr_ESh f90 kf80 (by intro i hi hs; simp only [in_ESh] at hi hs <;> omega)
  have kf96 : at_Names h84 ((b + 138) + 1) 8 (fun _ => .float 1) (fun _ _ => 0) := fr_Names f90 kf81 (by intro i hi hs; simp only [in_Names] at hi hs <;> omega)
  have kf97 : at_Names h84 ((b + 138) + 10) 32 (fun _ => .float 1) (fun _ _ => 0) := fr_Names f90 kf82 (by intro i hi hs; simp only [in_Names] at hi hs <;> omega)
  have fr98 : ab_fr (in_up b) h h84 := ab_fr_new fr83 e87 e85 l74
  have l99 : h84.length = b + 183 := e85
  clear c73 kf76 kf77 kf78 kf79 kf80 kf81 kf82 e85 e86 e87 f90 l74 fr83
  try clear h71
  refine ab_putF (f := 5) d_Program_init_48 c89 rfl (by decide) (k3 72 rfl rfl) rfl rfl rfl rfl (fun _ => rfl) (fun _ => rfl) (Nat.le_of_ble_eq_true rfl) ?_
  show ab_V _ _ _ _ _ _ _ 51 [some (.ref b)] [] (h84.set b (.inr (4, [.ref (b + 1), .int 0, .ref (b + 70), .ref (b + 138), .int 0, .ref (b + 182), .null, .int 0, .null, .null, .null, .null, .null, .null, .null, .int 0, .null, .int 0])))
  refine ab_gen (fun h100 e101 => ?_)
  have c102 : h100[b]? = some (.inr (4, [.ref (b + 1), .int 0, .ref (b + 70), .ref (b + 138), .int 0, .ref (b + 182), .null, .int 0, .null, .null, .null, .null, .null, .null, .null, .int 0, .null, .int 0])) := ab_self e101 c89
  have c103 : h100[b+182]? = some (.inl (.int, 16, .inl (fun _ => 0))) := ab_other e101 (by omega) c88
  have l104 : h100.length = b + 183 := by rw [e101]; exact List.length_set.trans l99
  have f105 : ab_fr (fun i => i = b) h84 h100 := ab_fr_set (ab_fr_rf _ _) e101 rfl
  have kf106 : at_Names h100 (b + 1) 68 (fun _ => .float 1) (fun _ _ => 0) := fr_Names f105 kf91 (by intro i hi hs; simp only [in_Names] at hi hs <;> omega)
  have kf107 : at_CSh h100 (b + 70) (fun _ => 0) (fun _ _ => 0) := fr_CSh f105 kf92 (by intro i hi hs; simp only [in_CSh] at hi hs <;> omega)
  have kf108 : at_Names h100 ((b + 70) + 1) 16 (fun _ => .float 1) (fun _ _ => 0) := fr_Names f105 kf93 (by intro i hi hs; simp only [in_Names] at hi hs <;> omega)
  have kf109 : at_Names h100 ((b + 70) + 18) 48 (fun _ => .float 1) (fun _ _ => 0) := fr_Names f105 kf94 (by intro i hi hs; simp only [in_Names] at hi hs <;> omega)
  have kf110 : at_ESh h100 (b + 138) (fun _ => 0) (fun _ _ => 0) := fr_ESh f105 kf95 (by intro i hi hs; simp only [in_ESh] at hi hs <;> omega)
  have kf111 : at_Names h100 ((b + 138) + 1) 8 (fun _ => .float 1) (fun _ _ => 0) := fr_Names f105 kf96 (by intro i hi hs; simp only [in_Names] at hi hs <;> omega)
  have kf112 : at_Names h100 ((b + 138) + 10) 32 (fun _ => .float 1) (fun _ _ => 0) := fr_Names f105 kf97 (by intro i hi hs; simp only [in_Names] at hi hs <;> omega)
  have fr113 : ab_fr (in_up b) h h100 := ab_fr_set fr98 e101 (by first | (show _ ∧ _; omega) | (show _ ∨ _; omega) | (show _ = _; omega) | (show _ ≤ _; omega))
  clear c89 c88 kf91 kf92 kf93 kf94 kf95 kf96 kf97 l99 fr98 e101 f105
  try clear h84
  refine ab_aload_n d_Program_init_51 rfl rfl rfl ?_
  refine ab_sipush (v := 768) d_Program_init_52 (by decide) ?_
  refine ab_newaL (N := 768) l104 d_Program_init_55 rfl (k1 143 rfl rfl) tI (Or.inl rfl) (by decide) (by decide) (by decide) (by decide) (by decide) (fun h114 e115 e116 e117 => ?_)
  have c118 : h114[b + 183]? = some (.inl (.int, 768, .inl (fun _ => 0))) := e116
  have c119 : h114[b]? = some (.inr (4, [.ref (b + 1), .int 0, .ref (b + 70), .ref (b + 138), .int 0, .ref (b + 182), .null, .int 0, .null, .null, .null, .null, .null, .null, .null, .int 0, .null, .int 0])) := (e117 _ (by omega)).trans c102
  have c120 : h114[b+182]? = some (.inl (.int, 16, .inl (fun _ => 0))) := (e117 _ (by omega)).trans c103
  have f121 : ab_fr (fun i => False) h100 h114 := ab_fr_new (ab_fr_rf _ _) e117 e115 l104
  have kf122 : at_Names h114 (b + 1) 68 (fun _ => .float 1) (fun _ _ => 0) := fr_Names f121 kf106 (by intro i hi hs; simp only [in_Names] at hi hs <;> omega)
  have kf123 : at_CSh h114 (b + 70) (fun _ => 0) (fun _ _ => 0) := fr_CSh f121 kf107 (by intro i hi hs; simp only [in_CSh] at hi hs <;> omega)
  have kf124 : at_Names h114 ((b + 70) + 1) 16 (fun _ => .float 1) (fun _ _ => 0) := fr_Names f121 kf108 (by intro i hi hs; simp only [in_Names] at hi hs <;> omega)
  have kf125 : at_Names h114 ((b + 70) + 18) 48 (fun _ => .float 1) (fun _ _ => 0) := fr_Names f121 kf109 (by intro i hi hs; simp only [in_Names] at hi hs <;> omega)
  have kf126 : at_ESh h114 (b + 138) (fun _ => 0) (fun _ _ => 0) := fr_ESh f121 kf110 (by intro i hi hs; simp only [in_ESh] at hi hs <;> omega)
  have kf127 : at_Names h114 ((b + 138) + 1) 8 (fun _ => .float 1) (fun _ _ => 0) := fr_Names f121 kf111 (by intro i hi hs; simp only [in_Names] at hi hs <;> omega)
  have kf128 : at_Names h114 ((b + 138) + 10) 32 (fun _ => .float 1) (fun _ _ => 0) := fr_Names f121 kf112 (by intro i hi hs; simp only [in_Names] at hi hs <;> omega)
  have fr129 : ab_fr (in_up b) h h114 := ab_fr_new fr113 e117 e115 l104
  have l130 : h114.length = b + 184 := e115
  clear c102 c103 kf106 kf107 kf108 kf109 kf110 kf111 kf112 e115 e116 e117 f121 l104 fr113
  try clear h100
  refine ab_putF (f := 6) d_Program_init_57 c119 rfl (by decide) (k3 76 rfl rfl) rfl rfl rfl rfl (fun _ => rfl) (fun _ => rfl) (Nat.le_of_ble_eq_true rfl) ?_
  show ab_V _ _ _ _ _ _ _ 60 [some (.ref b)] [] (h114.set b (.inr (4, [.ref (b + 1), .int 0, .ref (b + 70), .ref (b + 138), .int 0, .ref (b + 182), .ref (b + 183), .int 0, .null, .null, .null, .null, .null, .null, .null, .int 0, .null, .int 0])))
  refine ab_gen (fun h131 e132 => ?_)
  have c133 : h131[b]? = some (.inr (4, [.ref (b + 1), .int 0, .ref (b + 70), .ref (b + 138), .int 0, .ref (b + 182), .ref (b + 183), .int 0, .null, .null, .null, .null, .null, .null, .null, .int 0, .null, .int 0])) := ab_self e132 c119
  have c134 : h131[b+182]? = some (.inl (.int, 16, .inl (fun _ => 0))) := ab_other e132 (by omega) c120
  have c135 : h131[b+183]? = some (.inl (.int, 768, .inl (fun _ => 0))) := ab_other e132 (by omega) c118
  have l136 : h131.length = b + 184 := by rw [e132]; exact List.length_set.trans l130
  have f137 : ab_fr (fun i => i = b) h114 h131 := ab_fr_set (ab_fr_rf _ _) e132 rfl
  have kf138 : at_Names h131 (b + 1) 68 (fun _ => .float 1) (fun _ _ => 0) := fr_Names f137 kf122 (by intro i hi hs; simp only [in_Names] at hi hs <;> omega)
  have kf139 : at_CSh h131 (b + 70) (fun _ => 0) (fun _ _ => 0) := fr_CSh f137 kf123 (by intro i hi hs; simp only [in_CSh] at hi hs <;> omega)
  have kf140 : at_Names h131 ((b + 70) + 1) 16 (fun _ => .float 1) (fun _ _ => 0) := fr_Names f137 kf124 (by intro i hi hs; simp only [in_Names] at hi hs <;> omega)
  have kf141 : at_Names h131 ((b + 70) + 18) 48 (fun _ => .float 1) (fun _ _ => 0) := fr_Names f137 kf125 (by intro i hi hs; simp only [in_Names] at hi hs <;> omega)
  have kf142 : at_ESh h131 (b + 138) (fun _ => 0) (fun _ _ => 0) := fr_ESh f137 kf126 (by intro i hi hs; simp only [in_ESh] at hi hs <;> omega)
  have kf143 : at_Names h131 ((b + 138) + 1) 8 (fun _ => .float 1) (fun _ _ => 0) := fr_Names f137 kf127 (by intro i hi hs; simp only [in_Names] at hi hs <;> omega)
  have kf144 : at_Names h131 ((b + 138) + 10) 32 (fun _ => .float 1) (fun _ _ => 0) := fr_Names f137 kf128 (by intro i hi hs; simp only [in_Names] at hi hs <;> omega)
  have fr145 : ab_fr (in_up b) h h131 := ab_fr_set fr129 e132 (by first | (show _ ∧ _; omega) | (show _ ∨ _; omega) | (show _ = _; omega) | (show _ ≤ _; omega))
  clear c119 c120 c118 kf122 kf123 kf124 kf125 kf126 kf127 kf128 l130 fr129 e132 f137
  try clear h114
  refine ab_aload_n d_Program_init_60 rfl rfl rfl ?_
  refine ab_bipush (v := 16) d_Program_init_61 (by decide) ?_
  refine ab_newaL (N := 16) l136 d_Program_init_63 rfl (k1 143 rfl rfl) tI (Or.inl rfl) (by decide) (by decide) (by decide) (by decide) (by decide) (fun h146 e147 e148 e149 => ?_)
  have c150 : h146[b + 184]? = some (.inl (.int, 16, .inl (fun _ => 0))) := e148
  have c151 : h146[b]? = some (.inr (4, [.ref (b + 1), .int 0, .ref (b + 70), .ref (b + 138), .int 0, .ref (b + 182), .ref (b + 183), .int 0, .null, .null, .null, .null, .null, .null, .null, .int 0, .null, .int 0])) := (e149 _ (by omega)).trans c133
  have c152 : h146[b+182]? = some (.inl (.int, 16, .inl (fun _ => 0))) := (e149 _ (by omega)).trans c134
  have c153 : h146[b+183]? = some (.inl (.int, 768, .inl (fun _ => 0))) := (e149 _ (by omega)).trans c135
  have f154 : ab_fr (fun i => False) h131 h146 := ab_fr_new (ab_fr_rf _ _) e149 e147 l136
  have kf155 : at_Names h146 (b + 1) 68 (fun _ => .float 1) (fun _ _ => 0) := fr_Names f154 kf138 (by intro i hi hs; simp only [in_Names] at hi hs <;> omega)
  have kf156 : at_CSh h146 (b + 70) (fun _ => 0) (fun _ _ => 0) := fr_CSh f154 kf139 (by intro i hi hs; simp only [in_CSh] at hi hs <;> omega)
  have kf157 : at_Names h146 ((b + 70) + 1) 16 (fun _ => .float 1) (fun _ _ => 0) := fr_Names f154 kf140 (by intro i hi hs; simp only [in_Names] at hi hs <;> omega)
  have kf158 : at_Names h146 ((b + 70) + 18) 48 (fun _ => .float 1) (fun _ _ => 0) := fr_Names f154 kf141 (by intro i hi hs; simp only [in_Names] at hi hs <;> omega)
  have kf159 : at_ESh h146 (b + 138) (fun _ => 0) (fun _ _ => 0) := fr_ESh f154 kf142 (by intro i hi hs; simp only [in_ESh] at hi hs <;> omega)
  have kf160 : at_Names h146 ((b + 138) + 1) 8 (fun _ => .float 1) (fun _ _ => 0) := fr_Names f154 kf143 (by intro i hi hs; simp only [in_Names] at hi hs <;> omega)
  have kf161 : at_Names h146 ((b + 138) + 10) 32 (fun _ => .float 1) (fun _ _ => 0) := fr_Names f154 kf144 (by intro i hi hs; simp only [in_Names] at hi hs <;> omega)
  have fr162 : ab_fr (in_up b) h h146 := ab_fr_new fr145 e149 e147 l136
  have l163 : h146.length = b + 185 := e147
  clear c133 c134 c135 kf138 kf139 kf140 kf141 kf142 kf143 kf144 e147 e148 e149 f154 l136 fr145
  try clear h131
  refine ab_putF (f := 8) d_Program_init_65 c151 rfl (by decide) (k3 84 rfl rfl) rfl rfl rfl rfl (fun _ => rfl) (fun _ => rfl) (Nat.le_of_ble_eq_true rfl) ?_
  show ab_V _ _ _ _ _ _ _ 68 [some (.ref b)] [] (h146.set b (.inr (4, [.ref (b + 1), .int 0, .ref (b + 70), .ref (b + 138), .int 0, .ref (b + 182), .ref (b + 183), .int 0, .ref (b + 184), .null, .null, .null, .null, .null, .null, .int 0, .null, .int 0])))
  refine ab_gen (fun h164 e165 => ?_)
  have c166 : h164[b]? = some (.inr (4, [.ref (b + 1), .int 0, .ref (b + 70), .ref (b + 138), .int 0, .ref (b + 182), .ref (b + 183), .int 0, .ref (b + 184), .null, .null, .null, .null, .null, .null, .int 0, .null, .int 0])) := ab_self e165 c151
  have c167 : h164[b+182]? = some (.inl (.int, 16, .inl (fun _ => 0))) := ab_other e165 (by omega) c152
  have c168 : h164[b+183]? = some (.inl (.int, 768, .inl (fun _ => 0))) := ab_other e165 (by omega) c153
  have c169 : h164[b+184]? = some (.inl (.int, 16, .inl (fun _ => 0))) := ab_other e165 (by omega) c150
  have l170 : h164.length = b + 185 := by rw [e165]; exact List.length_set.trans l163
  have f171 : ab_fr (fun i => i = b) h146 h164 := ab_fr_set (ab_fr_rf _ _) e165 rfl
  have kf172 : at_Names h164 (b + 1) 68 (fun _ => .float 1) (fun _ _ => 0) := fr_Names f171 kf155 (by intro i hi hs; simp only [in_Names] at hi hs <;> omega)
  have kf173 : at_CSh h164 (b + 70) (fun _ => 0) (fun _ _ => 0) := fr_CSh f171 kf156 (by intro i hi hs; simp only [in_CSh] at hi hs <;> omega)
  have kf174 : at_Names h164 ((b + 70) + 1) 16 (fun _ => .float 1) (fun _ _ => 0) := fr_Names f171 kf157 (by intro i hi hs; simp only [in_Names] at hi hs <;> omega)
  have kf175 : at_Names h164 ((b + 70) + 18) 48 (fun _ => .float 1) (fun _ _ => 0) := fr_Names f171 kf158 (by intro i hi hs; simp only [in_Names] at hi hs <;> omega)
  have kf176 : at_ESh h164 (b + 138) (fun _ => 0) (fun _ _ => 0) := fr_ESh f171 kf159 (by intro i hi hs; simp only [in_ESh] at hi hs <;> omega)
  have kf177 : at_Names h164 ((b + 138) + 1) 8 (fun _ => .float 1) (fun _ _ => 0) := fr_Names f171 kf160 (by intro i hi hs; simp only [in_Names] at hi hs <;> omega)
  have kf178 : at_Names h164 ((b + 138) + 10) 32 (fun _ => .float 1) (fun _ _ => 0) := fr_Names f171 kf161 (by intro i hi hs; simp only [in_Names] at hi hs <;> omega)
  have fr179 : ab_fr (in_up b) h h164 := ab_fr_set fr162 e165 (by first | (show _ ∧ _; omega) | (show _ ∨ _; omega) | (show _ = _; omega) | (show _ ≤ _; omega))
  clear c151 c152 c153 c150 kf155 kf156 kf157 kf158 kf159 kf160 kf161 l163 fr162 e165 f171
  try clear h146
  refine ab_aload_n d_Program_init_68 rfl rfl rfl ?_
  refine ab_bipush (v := 16) d_Program_init_69 (by decide) ?_
  refine ab_newaL (N := 16) l170 d_Program_init_71 rfl (k1 143 rfl rfl) tI (Or.inl rfl) (by decide) (by decide) (by decide) (by decide) (by decide) (fun h180 e181 e182 e183 => ?_)
  have c184 : h180[b + 185]? = some (.inl (.int, 16, .inl (fun _ => 0))) := e182
  have c185 : h180[b]? = some (.inr (4, [.ref (b + 1), .int 0, .ref (b + 70), .ref (b + 138), .int 0, .ref (b + 182), .ref (b + 183), .int 0, .ref (b + 184), .null, .null, .null, .null, .null, .null, .int 0, .null, .int 0])) := (e183 _ (by omega)).trans c166
  have c186 : h180[b+182]? = some (.inl (.int, 16, .inl (fun _ => 0))) := (e183 _ (by omega)).trans c167
  have c187 : h180[b+183]? = some (.inl (.int, 768, .inl (fun _ => 0))) := (e183 _ (by omega)).trans c168
  have c188 : h180[b+184]? = some (.inl (.int, 16, .inl (fun _ => 0))) := (e183 _ (by omega)).trans c169
  have f189 : ab_fr (fun i => False) h164 h180 := ab_fr_new (ab_fr_rf _ _) e183 e181 l170
  have kf190 : at_Names h180 (b + 1) 68 (fun _ => .float 1) (fun _ _ => 0) := fr_Names f189 kf172 (by intro i hi hs; simp only [in_Names] at hi hs <;> omega)
  have kf191 : at_CSh h180 (b + 70) (fun _ => 0) (fun _ _ => 0) := fr_CSh f189 kf173 (by intro i hi hs; simp only [in_CSh] at hi hs <;> omega)
  have kf192 : at_Names h180 ((b + 70) + 1) 16 (fun _ => .float 1) (fun _ _ => 0) := fr_Names f189 kf174 (by intro i hi hs; simp only [in_Names] at hi hs <;> omega)
  have kf193 : at_Names h180 ((b + 70) + 18) 48 (fun _ => .float 1) (fun _ _ => 0) := fr_Names f189 kf175 (by intro i hi hs; simp only [in_Names] at hi hs <;> omega)
  have kf194 : at_ESh h180 (b + 138) (fun _ => 0) (fun _ _ => 0) := fr_ESh f189 kf176 (by intro i hi hs; simp only [in_ESh] at hi hs <;> omega)
  have kf195 : at_Names h180 ((b + 138) + 1) 8 (fun _ => .float 1) (fun _ _ => 0) := fr_Names f189 kf177 (by intro i hi hs; simp only [in_Names] at hi hs <;> omega)
  have kf196 : at_Names h180 ((b + 138) + 10) 32 (fun _ => .float 1) (fun _ _ => 0) := fr_Names f189 kf178 (by intro i hi hs; simp only [in_Names] at hi hs <;> omega)
  have fr197 : ab_fr (in_up b) h h180 := ab_fr_new fr179 e183 e181 l170
  have l198 : h180.length = b + 186 := e181
  clear c166 c167 c168 c169 kf172 kf173 kf174 kf175 kf176 kf177 kf178 e181 e182 e183 f189 l170 fr179
  try clear h164
  refine ab_putF (f := 9) d_Program_init_73 c185 rfl (by decide) (k3 86 rfl rfl) rfl rfl rfl rfl (fun _ => rfl) (fun _ => rfl) (Nat.le_of_ble_eq_true rfl) ?_
  show ab_V _ _ _ _ _ _ _ 76 [some (.ref b)] [] (h180.set b (.inr (4, [.ref (b + 1), .int 0, .ref (b + 70), .ref (b + 138), .int 0, .ref (b + 182), .ref (b + 183), .int 0, .ref (b + 184), .ref (b + 185), .null, .null, .null, .null, .null, .int 0, .null, .int 0])))
  refine ab_gen (fun h199 e200 => ?_)
  have c201 : h199[b]? = some (.inr (4, [.ref (b + 1), .int 0, .ref (b + 70), .ref (b + 138), .int 0, .ref (b + 182), .ref (b + 183), .int 0, .ref (b + 184), .ref (b + 185), .null, .null, .null, .null, .null, .int 0, .null, .int 0])) := ab_self e200 c185
  have c202 : h199[b+182]? = some (.inl (.int, 16, .inl (fun _ => 0))) := ab_other e200 (by omega) c186
  have c203 : h199[b+183]? = some (.inl (.int, 768, .inl (fun _ => 0))) := ab_other e200 (by omega) c187
  have c204 : h199[b+184]? = some (.inl (.int, 16, .inl (fun _ => 0))) := ab_other e200 (by omega) c188
  have c205 : h199[b+185]? = some (.inl (.int, 16, .inl (fun _ => 0))) := ab_other e200 (by omega) c184
  have l206 : h199.length = b + 186 := by rw [e200]; exact List.length_set.trans l198
  have f207 : ab_fr (fun i => i = b) h180 h199 := ab_fr_set (ab_fr_rf _ _) e200 rfl
  have kf208 : at_Names h199 (b + 1) 68 (fun _ => .float 1) (fun _ _ => 0) := fr_Names f207 kf190 (by intro i hi hs; simp only [in_Names] at hi hs <;> omega)
  have kf209 : at_CSh h199 (b + 70) (fun _ => 0) (fun _ _ => 0) := fr_CSh f207 kf191 (by intro i hi hs; simp only [in_CSh] at hi hs <;> omega)
  have kf210 : at_Names h199 ((b + 70) + 1) 16 (fun _ => .float 1) (fun _ _ => 0) := fr_Names f207 kf192 (by intro i hi hs; simp only [in_Names] at hi hs <;> omega)
  have kf211 : at_Names h199 ((b + 70) + 18) 48 (fun _ => .float 1) (fun _ _ => 0) := fr_Names f207 kf193 (by intro i hi hs; simp only [in_Names] at hi hs <;> omega)
  have kf212 : at_ESh h199 (b + 138) (fun _ => 0) (fun _ _ => 0) := fr_ESh f207 kf194 (by intro i hi hs; simp only [in_ESh] at hi hs <;> omega)
  have kf213 : at_Names h199 ((b + 138) + 1) 8 (fun _ => .float 1) (fun _ _ => 0) := fr_Names f207 kf195 (by intro i hi hs; simp only [in_Names] at hi hs <;> omega)
  have kf214 : at_Names h199 ((b + 138) + 10) 32 (fun _ => .float 1) (fun _ _ => 0) := fr_Names f207 kf196 (by intro i hi hs; simp only [in_Names] at hi hs <;> omega)
  have fr215 : ab_fr (in_up b) h h199 := ab_fr_set fr197 e200 (by first | (show _ ∧ _; omega) | (show _ ∨ _; omega) | (show _ = _; omega) | (show _ ≤ _; omega))
  clear c185 c186 c187 c188 c184 kf190 kf191 kf192 kf193 kf194 kf195 kf196 l198 fr197 e200 f207
  try clear h180
  refine ab_aload_n d_Program_init_76 rfl rfl rfl ?_
  refine ab_bipush (v := 16) d_Program_init_77 (by decide) ?_
  refine ab_newaL (N := 16) l206 d_Program_init_79 rfl (k1 143 rfl rfl) tI (Or.inl rfl) (by decide) (by decide) (by decide) (by decide) (by decide) (fun h216 e217 e218 e219 => ?_)
  have c220 : h216[b + 186]? = some (.inl (.int, 16, .inl (fun _ => 0))) := e218
  have c221 : h216[b]? = some (.inr (4, [.ref (b + 1), .int 0, .ref (b + 70), .ref (b + 138), .int 0, .ref (b + 182), .ref (b + 183), .int 0, .ref (b + 184), .ref (b + 185), .null, .null, .null, .null, .null, .int 0, .null, .int 0])) := (e219 _ (by omega)).trans c201
  have c222 : h216[b+182]? = some (.inl (.int, 16, .inl (fun _ => 0))) := (e219 _ (by omega)).trans c202
  have c223 : h216[b+183]? = some (.inl (.int, 768, .inl (fun _ => 0))) := (e219 _ (by omega)).trans c203
  have c224 : h216[b+184]? = some (.inl (.int, 16, .inl (fun _ => 0))) := (e219 _ (by omega)).trans c204
  have c225 : h216[b+185]? = some (.inl (.int, 16, .inl (fun _ => 0))) := (e219 _ (by omega)).trans c205
  have f226 : ab_fr (fun i => False) h199 h216 := ab_fr_new (ab_fr_rf _ _) e219 e217 l206
  have kf227 : at_Names h216 (b + 1) 68 (fun _ => .float 1) (fun _ _ => 0) := fr_Names f226 kf208 (by intro i hi hs; simp only [in_Names] at hi hs <;> omega)
  have kf228 : at_CSh h216 (b + 70) (fun _ => 0) (fun _ _ => 0) := fr_CSh f226 kf209 (by intro i hi hs; simp only [in_CSh] at hi hs <;> omega)
  have kf229 : at_Names h216 ((b + 70) + 1) 16 (fun _ => .float 1) (fun _ _ => 0) := fr_Names f226 kf210 (by intro i hi hs; simp only [in_Names] at hi hs <;> omega)
  have kf230 : at_Names h216 ((b + 70) + 18) 48 (fun _ => .float 1) (fun _ _ => 0) := fr_Names f226 kf211 (by intro i hi hs; simp only [in_Names] at hi hs <;> omega)
  have kf231 : at_ESh h216 (b + 138) (fun _ => 0) (fun _ _ => 0) := fr_ESh f226 kf212 (by intro i hi hs; simp only [in_ESh] at hi hs <;> omega)
  have kf232 : at_Names h216 ((b + 138) + 1) 8 (fun _ => .float 1) (fun _ _ => 0) := fr_Names f226 kf213 (by intro i hi hs; simp only [in_Names] at hi hs <;> omega)
  have kf233 : at_Names h216 ((b + 138) + 10) 32 (fun _ => .float 1) (fun _ _ => 0) := fr_Names f226 kf214 (by intro i hi hs; simp only [in_Names] at hi hs <;> omega)
  have fr234 : ab_fr (in_up b) h h216 := ab_fr_new fr215 e219 e217 l206
  have l235 : h216.length = b + 187 := e217
  clear c201 c202 c203 c204 c205 kf208 kf209 kf210 kf211 kf212 kf213 kf214 e217 e218 e219 f226 l206 fr215
  try clear h199
  refine ab_putF (f := 10) d_Program_init_81 c221 rfl (by decide) (k3 91 rfl rfl) rfl rfl rfl rfl (fun _ => rfl) (fun _ => rfl) (Nat.le_of_ble_eq_true rfl) ?_
  show ab_V _ _ _ _ _ _ _ 84 [some (.ref b)] [] (h216.set b (.inr (4, [.ref (b + 1), .int 0, .ref (b + 70), .ref (b + 138), .int 0, .ref (b + 182), .ref (b + 183), .int 0, .ref (b + 184), .ref (b + 185), .ref (b + 186), .null, .null, .null, .null, .int 0, .null, .int 0])))
  refine ab_gen (fun h236 e237 => ?_)
  have c238 : h236[b]? = some (.inr (4, [.ref (b + 1), .int 0, .ref (b + 70), .ref (b + 138), .int 0, .ref (b + 182), .ref (b + 183), .int 0, .ref (b + 184), .ref (b + 185), .ref (b + 186), .null, .null, .null, .null, .int 0, .null, .int 0])) := ab_self e237 c221
  have c239 : h236[b+182]? = some (.inl (.int, 16, .inl (fun _ => 0))) := ab_other e237 (by omega) c222
  have c240 : h236[b+183]? = some (.inl (.int, 768, .inl (fun _ => 0))) := ab_other e237 (by omega) c223
  have c241 : h236[b+184]? = some (.inl (.int, 16, .inl (fun _ => 0))) := ab_other e237 (by omega) c224
  have c242 : h236[b+185]? = some (.inl (.int, 16, .inl (fun _ => 0))) := ab_other e237 (by omega) c225
  have c243 : h236[b+186]? = some (.inl (.int, 16, .inl (fun _ => 0))) := ab_other e237 (by omega) c220
  have l244 : h236.length = b + 187 := by rw [e237]; exact List.length_set.trans l235
  have f245 : ab_fr (fun i => i = b) h216 h236 := ab_fr_set (ab_fr_rf _ _) e237 rfl
  have kf246 : at_Names h236 (b + 1) 68 (fun _ => .float 1) (fun _ _ => 0) := fr_Names f245 kf227 (by intro i hi hs; simp only [in_Names] at hi hs <;> omega)
  have kf247 : at_CSh h236 (b + 70) (fun _ => 0) (fun _ _ => 0) := fr_CSh f245 kf228 (by intro i hi hs; simp only [in_CSh] at hi hs <;> omega)
  have kf248 : at_Names h236 ((b + 70) + 1) 16 (fun _ => .float 1) (fun _ _ => 0) := fr_Names f245 kf229 (by intro i hi hs; simp only [in_Names] at hi hs <;> omega)
  have kf249 : at_Names h236 ((b + 70) + 18) 48 (fun _ => .float 1) (fun _ _ => 0) := fr_Names f245 kf230 (by intro i hi hs; simp only [in_Names] at hi hs <;> omega)
  have kf250 : at_ESh h236 (b + 138) (fun _ => 0) (fun _ _ => 0) := fr_ESh f245 kf231 (by intro i hi hs; simp only [in_ESh] at hi hs <;> omega)
  have kf251 : at_Names h236 ((b + 138) + 1) 8 (fun _ => .float 1) (fun _ _ => 0) := fr_Names f245 kf232 (by intro i hi hs; simp only [in_Names] at hi hs <;> omega)
  have kf252 : at_Names h236 ((b + 138) + 10) 32 (fun _ => .float 1) (fun _ _ => 0) := fr_Names f245 kf233 (by intro i hi hs; simp only [in_Names] at hi hs <;> omega)
  have fr253 : ab_fr (in_up b) h h236 := ab_fr_set fr234 e237 (by first | (show _ ∧ _; omega) | (show _ ∨ _; omega) | (show _ = _; omega) | (show _ ≤ _; omega))
  clear c221 c222 c223 c224 c225 c220 kf227 kf228 kf229 kf230 kf231 kf232 kf233 l235 fr234 e237 f245
  try clear h216
  refine ab_aload_n d_Program_init_84 rfl rfl rfl ?_
  refine ab_bipush (v := 16) d_Program_init_85 (by decide) ?_
  refine ab_newaL (N := 16) l244 d_Program_init_87 rfl (k1 143 rfl rfl) tI (Or.inl rfl) (by decide) (by decide) (by decide) (by decide) (by decide) (fun h254 e255 e256 e257 => ?_)
  have c258 : h254[b + 187]? = some (.inl (.int, 16, .inl (fun _ => 0))) := e256
  have c259 : h254[b]? = some (.inr (4, [.ref (b + 1), .int 0, .ref (b + 70), .ref (b + 138), .int 0, .ref (b + 182), .ref (b + 183), .int 0, .ref (b + 184), .ref (b + 185), .ref (b + 186), .null, .null, .null, .null, .int 0, .null, .int 0])) := (e257 _ (by omega)).trans c238
  have c260 : h254[b+182]? = some (.inl (.int, 16, .inl (fun _ => 0))) := (e257 _ (by omega)).trans c239
  have c261 : h254[b+183]? = some (.inl (.int, 768, .inl (fun _ => 0))) := (e257 _ (by omega)).trans c240
  have c262 : h254[b+184]? = some (.inl (.int, 16, .inl (fun _ => 0))) := (e257 _ (by omega)).trans c241
  have c263 : h254[b+185]? = some (.inl (.int, 16, .inl (fun _ => 0))) := (e257 _ (by omega)).trans c242
  have c264 : h254[b+186]? = some (.inl (.int, 16, .inl (fun _ => 0))) := (e257 _ (by omega)).trans c243
  have f265 : ab_fr (fun i => False) h236 h254 := ab_fr_new (ab_fr_rf _ _) e257 e255 l244
  have kf266 : at_Names h254 (b + 1) 68 (fun _ => .float 1) (fun _ _ => 0) := fr_Names f265 kf246 (by intro i hi hs; simp only [in_Names] at hi hs <;> omega)
  have kf267 : at_CSh h254 (b + 70) (fun _ => 0) (fun _ _ => 0) := fr_CSh f265 kf247 (by intro i hi hs; simp only [in_CSh] at hi hs <;> omega)
  have kf268 : at_Names h254 ((b + 70) + 1) 16 (fun _ => .float 1) (fun _ _ => 0) := fr_Names f265 kf248 (by intro i hi hs; simp only [in_Names] at hi hs <;> omega)
  have kf269 : at_Names h254 ((b + 70) + 18) 48 (fun _ => .float 1) (fun _ _ => 0) := fr_Names f265 kf249 (by intro i hi hs; simp only [in_Names] at hi hs <;> omega)
  have kf270 : at_ESh h254 (b + 138) (fun _ => 0) (fun _ _ => 0) := fr_ESh f265 kf250 (by intro i hi hs; simp only [in_ESh] at hi hs <;> omega)
  have kf271 : at_Names h254 ((b + 138) + 1) 8 (fun _ => .float 1) (fun _ _ => 0) := fr_Names f265 kf251 (by intro i hi hs; simp only [in_Names] at hi hs <;> omega)
  have kf272 : at_Names h254 ((b + 138) + 10) 32 (fun _ => .float 1) (fun _ _ => 0) := fr_Names f265 kf252 (by intro i hi hs; simp only [in_Names] at hi hs <;> omega)
  have fr273 : ab_fr (in_up b) h h254 := ab_fr_new fr253 e257 e255 l244
  have l274 : h254.length = b + 188 := e255
  clear c238 c239 c240 c241 c242 c243 kf246 kf247 kf248 kf249 kf250 kf251 kf252 e255 e256 e257 f265 l244 fr253
  try clear h236
  refine ab_putF (f := 11) d_Program_init_89 c259 rfl (by decide) (k3 95 rfl rfl) rfl rfl rfl rfl (fun _ => rfl) (fun _ => rfl) (Nat.le_of_ble_eq_true rfl) ?_
  show ab_V _ _ _ _ _ _ _ 92 [some (.ref b)] [] (h254.set b (.inr (4, [.ref (b + 1), .int 0, .ref (b + 70), .ref (b + 138), .int 0, .ref (b + 182), .ref (b + 183), .int 0, .ref (b + 184), .ref (b + 185), .ref (b + 186), .ref (b + 187), .null, .null, .null, .int 0, .null, .int 0])))
  refine ab_gen (fun h275 e276 => ?_)
  have c277 : h275[b]? = some (.inr (4, [.ref (b + 1), .int 0, .ref (b + 70), .ref (b + 138), .int 0, .ref (b + 182), .ref (b + 183), .int 0, .ref (b + 184), .ref (b + 185), .ref (b + 186), .ref (b + 187), .null, .null, .null, .int 0, .null, .int 0])) := ab_self e276 c259
  have c278 : h275[b+182]? = some (.inl (.int, 16, .inl (fun _ => 0))) := ab_other e276 (by omega) c260
  have c279 : h275[b+183]? = some (.inl (.int, 768, .inl (fun _ => 0))) := ab_other e276 (by omega) c261
  have c280 : h275[b+184]? = some (.inl (.int, 16, .inl (fun _ => 0))) := ab_other e276 (by omega) c262
  have c281 : h275[b+185]? = some (.inl (.int, 16, .inl (fun _ => 0))) := ab_other e276 (by omega) c263
  have c282 : h275[b+186]? = some (.inl (.int, 16, .inl (fun _ => 0))) := ab_other e276 (by omega) c264
  have c283 : h275[b+187]? = some (.inl (.int, 16, .inl (fun _ => 0))) := ab_other e276 (by omega) c258
  have l284 : h275.length = b + 188 := by rw [e276]; exact List.length_set.trans l274
  have f285 : ab_fr (fun i => i = b) h254 h275 := ab_fr_set (ab_fr_rf _ _) e276 rfl
  have kf286 : at_Names h275 (b + 1) 68 (fun _ => .float 1) (fun _ _ => 0) := fr_Names f285 kf266 (by intro i hi hs; simp only [in_Names] at hi hs <;> omega)
  have kf287 : at_CSh h275 (b + 70) (fun _ => 0) (fun _ _ => 0) := fr_CSh f285 kf267 (by intro i hi hs; simp only [in_CSh] at hi hs <;> omega)
  have kf288 : at_Names h275 ((b + 70) + 1) 16 (fun _ => .float 1) (fun _ _ => 0) := fr_Names f285 kf268 (by intro i hi hs; simp only [in_Names] at hi hs <;> omega)
  have kf289 : at_Names h275 ((b + 70) + 18) 48 (fun _ => .float 1) (fun _ _ => 0) := fr_Names f285 kf269 (by intro i hi hs; simp only [in_Names] at hi hs <;> omega)
  have kf290 : at_ESh h275 (b + 138) (fun _ => 0) (fun _ _ => 0) := fr_ESh f285 kf270 (by intro i hi hs; simp only [in_ESh] at hi hs <;> omega)
  have kf291 : at_Names h275 ((b + 138) + 1) 8 (fun _ => .float 1) (fun _ _ => 0) := fr_Names f285 kf271 (by intro i hi hs; simp only [in_Names] at hi hs <;> omega)
  have kf292 : at_Names h275 ((b + 138) + 10) 32 (fun _ => .float 1) (fun _ _ => 0) := fr_Names f285 kf272 (by intro i hi hs; simp only [in_Names] at hi hs <;> omega)
  have fr293 : ab_fr (in_up b) h h275 := ab_fr_set fr273 e276 (by first | (show _ ∧ _; omega) | (show _ ∨ _; omega) | (show _ = _; omega) | (show _ ≤ _; omega))
  clear c259 c260 c261 c262 c263 c264 c258 kf266 kf267 kf268 kf269 kf270 kf271 kf272 l274 fr273 e276 f285
  try clear h254
  refine ab_aload_n d_Program_init_92 rfl rfl rfl ?_
  refine ab_bipush (v := 16) d_Program_init_93 (by decide) ?_
  refine ab_newaL (N := 16) l284 d_Program_init_95 rfl (k1 143 rfl rfl) tI (Or.inl rfl) (by decide) (by decide) (by decide) (by decide) (by decide) (fun h294 e295 e296 e297 => ?_)
  have c298 : h294[b + 188]? = some (.inl (.int, 16, .inl (fun _ => 0))) := e296
  have c299 : h294[b]? = some (.inr (4, [.ref (b + 1), .int 0, .ref (b + 70), .ref (b + 138), .int 0, .ref (b + 182), .ref (b + 183), .int 0, .ref (b + 184), .ref (b + 185), .ref (b + 186), .ref (b + 187), .null, .null, .null, .int 0, .null, .int 0])) := (e297 _ (by omega)).trans c277
  have c300 : h294[b+182]? = some (.inl (.int, 16, .inl (fun _ => 0))) := (e297 _ (by omega)).trans c278
  have c301 : h294[b+183]? = some (.inl (.int, 768, .inl (fun _ => 0))) := (e297 _ (by omega)).trans c279
  have c302 : h294[b+184]? = some (.inl (.int, 16, .inl (fun _ => 0))) := (e297 _ (by omega)).trans c280
  have c303 : h294[b+185]? = some (.inl (.int, 16, .inl (fun _ => 0))) := (e297 _ (by omega)).trans c281
  have c304 : h294[b+186]? = some (.inl (.int, 16, .inl (fun _ => 0))) := (e297 _ (by omega)).trans c282
  have c305 : h294[b+187]? = some (.inl (.int, 16, .inl (fun _ => 0))) := (e297 _ (by omega)).trans c283
  have f306 : ab_fr (fun i => False) h275 h294 := ab_fr_new (ab_fr_rf _ _) e297 e295 l284
  have kf307 : at_Names h294 (b + 1) 68 (fun _ => .float 1) (fun _ _ => 0) := fr_Names f306 kf286 (by intro i hi hs; simp only [in_Names] at hi hs <;> omega)
  have kf308 : at_CSh h294 (b + 70) (fun _ => 0) (fun _ _ => 0) := fr_CSh f306 kf287 (by intro i hi hs; simp only [in_CSh] at hi hs <;> omega)
  have kf309 : at_Names h294 ((b + 70) + 1) 16 (fun _ => .float 1) (fun _ _ => 0) := fr_Names f306 kf288 (by intro i hi hs; simp only [in_Names] at hi hs <;> omega)
  have kf310 : at_Names h294 ((b + 70) + 18) 48 (fun _ => .float 1) (fun _ _ => 0) := fr_Names f306 kf289 (by intro i hi hs; simp only [in_Names] at hi hs <;> omega)
  have kf311 : at_ESh h294 (b + 138) (fun _ => 0) (fun _ _ => 0) := fr_ESh f306 kf290 (by intro i hi hs; simp only [in_ESh] at hi hs <;> omega)
  have kf312 : at_Names h294 ((b + 138) + 1) 8 (fun _ => .float 1) (fun _ _ => 0) := fr_Names f306 kf291 (by intro i hi hs; simp only [in_Names] at hi hs <;> omega)
  have kf313 : at_Names h294 ((b + 138) + 10) 32 (fun _ => .float 1) (fun _ _ => 0) := fr_Names f306 kf292 (by intro i hi hs; simp only [in_Names] at hi hs <;> omega)
  have fr314 : ab_fr (in_up b) h h294 := ab_fr_new fr293 e297 e295 l284
  have l315 : h294.length = b + 189 := e295
  clear c277 c278 c279 c280 c281 c282 c283 kf286 kf287 kf288 kf289 kf290 kf291 kf292 e295 e296 e297 f306 l284 fr293
  try clear h275
  refine ab_putF (f := 12) d_Program_init_97 c299 rfl (by decide) (k3 98 rfl rfl) rfl rfl rfl rfl (fun _ => rfl) (fun _ => rfl) (Nat.le_of_ble_eq_true rfl) ?_
  show ab_V _ _ _ _ _ _ _ 100 [some (.ref b)] [] (h294.set b (.inr (4, [.ref (b + 1), .int 0, .ref (b + 70), .ref (b + 138), .int 0, .ref (b + 182), .ref (b + 183), .int 0, .ref (b + 184), .ref (b + 185), .ref (b + 186), .ref (b + 187), .ref (b + 188), .null, .null, .int 0, .null, .int 0])))
  refine ab_gen (fun h316 e317 => ?_)
  have c318 : h316[b]? = some (.inr (4, [.ref (b + 1), .int 0, .ref (b + 70), .ref (b + 138), .int 0, .ref (b + 182), .ref (b + 183), .int 0, .ref (b + 184), .ref (b + 185), .ref (b + 186), .ref (b + 187), .ref (b + 188), .null, .null, .int 0, .null, .int 0])) := ab_self e317 c299
  have c319 : h316[b+182]? = some (.inl (.int, 16, .inl (fun _ => 0))) := ab_other e317 (by omega) c300
  have c320 : h316[b+183]? = some (.inl (.int, 768, .inl (fun _ => 0))) := ab_other e317 (by omega) c301
  have c321 : h316[b+184]? = some (.inl (.int, 16, .inl (fun _ => 0))) := ab_other e317 (by omega) c302
  have c322 : h316[b+185]? = some (.inl (.int, 16, .inl (fun _ => 0))) := ab_other e317 (by omega) c303
  have c323 : h316[b+186]? = some (.inl (.int, 16, .inl (fun _ => 0))) := ab_other e317 (by omega) c304
  have c324 : h316[b+187]? = some (.inl (.int, 16, .inl (fun _ => 0))) := ab_other e317 (by omega) c305
  have c325 : h316[b+188]? = some (.inl (.int, 16, .inl (fun _ => 0))) := ab_other e317 (by omega) c298
  have l326 : h316.length = b + 189 := by rw [e317]; exact List.length_set.trans l315
  have f327 : ab_fr (fun i => i = b) h294 h316 := ab_fr_set (ab_fr_rf _ _) e317 rfl
  have kf328 : at_Names h316 (b + 1) 68 (fun _ => .float 1) (fun _ _ => 0) := fr_Names f327 kf307 (by intro i hi hs; simp only [in_Names] at hi hs <;> omega)
  have kf329 : at_CSh h316 (b + 70) (fun _ => 0) (fun _ _ => 0) := fr_CSh f327 kf308 (by intro i hi hs; simp only [in_CSh] at hi hs <;> omega)
  have kf330 : at_Names h316 ((b + 70) + 1) 16 (fun _ => .float 1) (fun _ _ => 0) := fr_Names f327 kf309 (by intro i hi hs; simp only [in_Names] at hi hs <;> omega)
  have kf331 : at_Names h316 ((b + 70) + 18) 48 (fun _ => .float 1) (fun _ _ => 0) := fr_Names f327 kf310 (by intro i hi hs; simp only [in_Names] at hi hs <;> omega)
  have kf332 : at_ESh h316 (b + 138) (fun _ => 0) (fun _ _ => 0) := fr_ESh f327 kf311 (by intro i hi hs; simp only [in_ESh] at hi hs <;> omega)
  have kf333 : at_Names h316 ((b + 138) + 1) 8 (fun _ => .float 1) (fun _ _ => 0) := fr_Names f327 kf312 (by intro i hi hs; simp only [in_Names] at hi hs <;> omega)
  have kf334 : at_Names h316 ((b + 138) + 10) 32 (fun _ => .float 1) (fun _ _ => 0) := fr_Names f327 kf313 (by intro i hi hs; simp only [in_Names] at hi hs <;> omega)
  have fr335 : ab_fr (in_up b) h h316 := ab_fr_set fr314 e317 (by first | (show _ ∧ _; omega) | (show _ ∨ _; omega) | (show _ = _; omega) | (show _ ≤ _; omega))
  clear c299 c300 c301 c302 c303 c304 c305 c298 kf307 kf308 kf309 kf310 kf311 kf312 kf313 l315 fr314 e317 f327
  try clear h294
  refine ab_aload_n d_Program_init_100 rfl rfl rfl ?_
  refine ab_bipush (v := 16) d_Program_init_101 (by decide) ?_
  refine ab_newaL (N := 16) l326 d_Program_init_103 rfl (k1 143 rfl rfl) tI (Or.inl rfl) (by decide) (by decide) (by decide) (by decide) (by decide) (fun h336 e337 e338 e339 => ?_)
  have c340 : h336[b + 189]? = some (.inl (.int, 16, .inl (fun _ => 0))) := e338
  have c341 : h336[b]? = some (.inr (4, [.ref (b + 1), .int 0, .ref (b + 70), .ref (b + 138), .int 0, .ref (b + 182), .ref (b + 183), .int 0, .ref (b + 184), .ref (b + 185), .ref (b + 186), .ref (b + 187), .ref (b + 188), .null, .null, .int 0, .null, .int 0])) := (e339 _ (by omega)).trans c318
  have c342 : h336[b+182]? = some (.inl (.int, 16, .inl (fun _ => 0))) := (e339 _ (by omega)).trans c319
  have c343 : h336[b+183]? = some (.inl (.int, 768, .inl (fun _ => 0))) := (e339 _ (by omega)).trans c320
  have c344 : h336[b+184]? = some (.inl (.int, 16, .inl (fun _ => 0))) := (e339 _ (by omega)).trans c321
  have c345 : h336[b+185]? = some (.inl (.int, 16, .inl (fun _ => 0))) := (e339 _ (by omega)).trans c322
  have c346 : h336[b+186]? = some (.inl (.int, 16, .inl (fun _ => 0))) := (e339 _ (by omega)).trans c323
  have c347 : h336[b+187]? = some (.inl (.int, 16, .inl (fun _ => 0))) := (e339 _ (by omega)).trans c324
  have c348 : h336[b+188]? = some (.inl (.int, 16, .inl (fun _ => 0))) := (e339 _ (by omega)).trans c325
  have f349 : ab_fr (fun i => False) h316 h336 := ab_fr_new (ab_fr_rf _ _) e339 e337 l326
  have kf350 : at_Names h336 (b + 1) 68 (fun _ => .float 1) (fun _ _ => 0) := fr_Names f349 kf328 (by intro i hi hs; simp only [in_Names] at hi hs <;> omega)
  have kf351 : at_CSh h336 (b + 70) (fun _ => 0) (fun _ _ => 0) := fr_CSh f349 kf329 (by intro i hi hs; simp only [in_CSh] at hi hs <;> omega)
  have kf352 : at_Names h336 ((b + 70) + 1) 16 (fun _ => .float 1) (fun _ _ => 0) := fr_Names f349 kf330 (by intro i hi hs; simp only [in_Names] at hi hs <;> omega)
  have kf353 : at_Names h336 ((b + 70) + 18) 48 (fun _ => .float 1) (fun _ _ => 0) := fr_Names f349 kf331 (by intro i hi hs; simp only [in_Names] at hi hs <;> omega)
  have kf354 : at_ESh h336 (b + 138) (fun _ => 0) (fun _ _ => 0) := fr_ESh f349 kf332 (by intro i hi hs; simp only [in_ESh] at hi hs <;> omega)
  have kf355 : at_Names h336 ((b + 138) + 1) 8 (fun _ => .float 1) (fun _ _ => 0) := fr_Names f349 kf333 (by intro i hi hs; simp only [in_Names] at hi hs <;> omega)
  have kf356 : at_Names h336 ((b + 138) + 10) 32 (fun _ => .float 1) (fun _ _ => 0) := fr_Names f349 kf334 (by intro i hi hs; simp only [in_Names] at hi hs <;> omega)
  have fr357 : ab_fr (in_up b) h h336 := ab_fr_new fr335 e339 e337 l326
  have l358 : h336.length = b + 190 := e337
  clear c318 c319 c320 c321 c322 c323 c324 c325 kf328 kf329 kf330 kf331 kf332 kf333 kf334 e337 e338 e339 f349 l326 fr335
  try clear h316
  refine ab_putF (f := 13) d_Program_init_105 c341 rfl (by decide) (k3 101 rfl rfl) rfl rfl rfl rfl (fun _ => rfl) (fun _ => rfl) (Nat.le_of_ble_eq_true rfl) ?_
  show ab_V _ _ _ _ _ _ _ 108 [some (.ref b)] [] (h336.set b (.inr (4, [.ref (b + 1), .int 0, .ref (b + 70), .ref (b + 138), .int 0, .ref (b + 182), .ref (b + 183), .int 0, .ref (b + 184), .ref (b + 185), .ref (b + 186), .ref (b + 187), .ref (b + 188), .ref (b + 189), .null, .int 0, .null, .int 0])))
  refine ab_gen (fun h359 e360 => ?_)
  have c361 : h359[b]? = some (.inr (4, [.ref (b + 1), .int 0, .ref (b + 70), .ref (b + 138), .int 0, .ref (b + 182), .ref (b + 183), .int 0, .ref (b + 184), .ref (b + 185), .ref (b + 186), .ref (b + 187), .ref (b + 188), .ref (b + 189), .null, .int 0, .null, .int 0])) := ab_self e360 c341
  have c362 : h359[b+182]? = some (.inl (.int, 16, .inl (fun _ => 0))) := ab_other e360 (by omega) c342
  have c363 : h359[b+183]? = some (.inl (.int, 768, .inl (fun _ => 0))) := ab_other e360 (by omega) c343
  have c364 : h359[b+184]? = some (.inl (.int, 16, .inl (fun _ => 0))) := ab_other e360 (by omega) c344
  have c365 : h359[b+185]? = some (.inl (.int, 16, .inl (fun _ => 0))) := ab_other e360 (by omega) c345
  have c366 : h359[b+186]? = some (.inl (.int, 16, .inl (fun _ => 0))) := ab_other e360 (by omega) c346
  have c367 : h359[b+187]? = some (.inl (.int, 16, .inl (fun _ => 0))) := ab_other e360 (by omega) c347
  have c368 : h359[b+188]? = some (.inl (.int, 16, .inl (fun _ => 0))) := ab_other e360 (by omega) c348
  have c369 : h359[b+189]? = some (.inl (.int, 16, .inl (fun _ => 0))) := ab_other e360 (by omega) c340
  have l370 : h359.length = b + 190 := by rw [e360]; exact List.length_set.trans l358
  have f371 : ab_fr (fun i => i = b) h336 h359 := ab_fr_set (ab_fr_rf _ _) e360 rfl
  have kf372 : at_Names h359 (b + 1) 68 (fun _ => .float 1) (fun _ _ => 0) := fr_Names f371 kf350 (by intro i hi hs; simp only [in_Names] at hi hs <;> omega)
  have kf373 : at_CSh h359 (b + 70) (fun _ => 0) (fun _ _ => 0) := fr_CSh f371 kf351 (by intro i hi hs; simp only [in_CSh] at hi hs <;> omega)
  have kf374 : at_Names h359 ((b + 70) + 1) 16 (fun _ => .float 1) (fun _ _ => 0) := fr_Names f371 kf352 (by intro i hi hs; simp only [in_Names] at hi hs <;> omega)
  have kf375 : at_Names h359 ((b + 70) + 18) 48 (fun _ => .float 1) (fun _ _ => 0) := fr_Names f371 kf353 (by intro i hi hs; simp only [in_Names] at hi hs <;> omega)
  have kf376 : at_ESh h359 (b + 138) (fun _ => 0) (fun _ _ => 0) := fr_ESh f371 kf354 (by intro i hi hs; simp only [in_ESh] at hi hs <;> omega)
  have kf377 : at_Names h359 ((b + 138) + 1) 8 (fun _ => .float 1) (fun _ _ => 0) := fr_Names f371 kf355 (by intro i hi hs; simp only [in_Names] at hi hs <;> omega)
  have kf378 : at_Names h359 ((b + 138) + 10) 32 (fun _ => .float 1) (fun _ _ => 0) := fr_Names f371 kf356 (by intro i hi hs; simp only [in_Names] at hi hs <;> omega)
  have fr379 : ab_fr (in_up b) h h359 := ab_fr_set fr357 e360 (by first | (show _ ∧ _; omega) | (show _ ∨ _; omega) | (show _ = _; omega) | (show _ ≤ _; omega))
  clear c341 c342 c343 c344 c345 c346 c347 c348 c340 kf350 kf351 kf352 kf353 kf354 kf355 kf356 l358 fr357 e360 f371
  try clear h336
  refine ab_aload_n d_Program_init_108 rfl rfl rfl ?_
  refine ab_bipush (v := 16) d_Program_init_109 (by decide) ?_
  refine ab_newaL (N := 16) l370 d_Program_init_111 rfl (k1 143 rfl rfl) tI (Or.inl rfl) (by decide) (by decide) (by decide) (by decide) (by decide) (fun h380 e381 e382 e383 => ?_)
  have c384 : h380[b + 190]? = some (.inl (.int, 16, .inl (fun _ => 0))) := e382
  have c385 : h380[b]? = some (.inr (4, [.ref (b + 1), .int 0, .ref (b + 70), .ref (b + 138), .int 0, .ref (b + 182), .ref (b + 183), .int 0, .ref (b + 184), .ref (b + 185), .ref (b + 186), .ref (b + 187), .ref (b + 188), .ref (b + 189), .null, .int 0, .null, .int 0])) := (e383 _ (by omega)).trans c361
  have c386 : h380[b+182]? = some (.inl (.int, 16, .inl (fun _ => 0))) := (e383 _ (by omega)).trans c362
  have c387 : h380[b+183]? = some (.inl (.int, 768, .inl (fun _ => 0))) := (e383 _ (by omega)).trans c363
  have c388 : h380[b+184]? = some (.inl (.int, 16, .inl (fun _ => 0))) := (e383 _ (by omega)).trans c364
  have c389 : h380[b+185]? = some (.inl (.int, 16, .inl (fun _ => 0))) := (e383 _ (by omega)).trans c365
  have c390 : h380[b+186]? = some (.inl (.int, 16, .inl (fun _ => 0))) := (e383 _ (by omega)).trans c366
  have c391 : h380[b+187]? = some (.inl (.int, 16, .inl (fun _ => 0))) := (e383 _ (by omega)).trans c367
  have c392 : h380[b+188]? = some (.inl (.int, 16, .inl (fun _ => 0))) := (e383 _ (by omega)).trans c368
  have c393 : h380[b+189]? = some (.inl (.int, 16, .inl (fun _ => 0))) := (e383 _ (by omega)).trans c369
  have f394 : ab_fr (fun i => False) h359 h380 := ab_fr_new (ab_fr_rf _ _) e383 e381 l370
  have kf395 : at_Names h380 (b + 1) 68 (fun _ => .float 1) (fun _ _ => 0) := fr_Names f394 kf372 (by intro i hi hs; simp only [in_Names] at hi hs <;> omega)
  have kf396 : at_CSh h380 (b + 70) (fun _ => 0) (fun _ _ => 0) := fr_CSh f394 kf373 (by intro i hi hs; simp only [in_CSh] at hi hs <;> omega)
  have kf397 : at_Names h380 ((b + 70) + 1) 16 (fun _ => .float 1) (fun _ _ => 0) := fr_Names f394 kf374 (by intro i hi hs; simp only [in_Names] at hi hs <;> omega)
  have kf398 : at_Names h380 ((b + 70) + 18) 48 (fun _ => .float 1) (fun _ _ => 0) := fr_Names f394 kf375 (by intro i hi hs; simp only [in_Names] at hi hs <;> omega)
  have kf399 : at_ESh h380 (b + 138) (fun _ => 0) (fun _ _ => 0) := fr_ESh f394 kf376 (by intro i hi hs; simp only [in_ESh] at hi hs <;> omega)
  have kf400 : at_Names h380 ((b + 138) + 1) 8 (fun _ => .float 1) (fun _ _ => 0) := fr_Names f394 kf377 (by intro i hi hs; simp only [in_Names] at hi hs <;> omega)
  have kf401 : at_Names h380 ((b + 138) + 10) 32 (fun _ => .float 1) (fun _ _ => 0) := fr_Names f394 kf378 (by intro i hi hs; simp only [in_Names] at hi hs <;> omega)
  have fr402 : ab_fr (in_up b) h h380 := ab_fr_new fr379 e383 e381 l370
  have l403 : h380.length = b + 191 := e381
  clear c361 c362 c363 c364 c365 c366 c367 c368 c369 kf372 kf373 kf374 kf375 kf376 kf377 kf378 e381 e382 e383 f394 l370 fr379
  try clear h359
  refine ab_putF (f := 14) d_Program_init_113 c385 rfl (by decide) (k3 104 rfl rfl) rfl rfl rfl rfl (fun _ => rfl) (fun _ => rfl) (Nat.le_of_ble_eq_true rfl) ?_
  show ab_V _ _ _ _ _ _ _ 116 [some (.ref b)] [] (h380.set b (.inr (4, [.ref (b + 1), .int 0, .ref (b + 70), .ref (b + 138), .int 0, .ref (b + 182), .ref (b + 183), .int 0, .ref (b + 184), .ref (b + 185), .ref (b + 186), .ref (b + 187), .ref (b + 188), .ref (b + 189), .ref (b + 190), .int 0, .null, .int 0])))
  refine ab_gen (fun h404 e405 => ?_)
  have c406 : h404[b]? = some (.inr (4, [.ref (b + 1), .int 0, .ref (b + 70), .ref (b + 138), .int 0, .ref (b + 182), .ref (b + 183), .int 0, .ref (b + 184), .ref (b + 185), .ref (b + 186), .ref (b + 187), .ref (b + 188), .ref (b + 189), .ref (b + 190), .int 0, .null, .int 0])) := ab_self e405 c385
  have c407 : h404[b+182]? = some (.inl (.int, 16, .inl (fun _ => 0))) := ab_other e405 (by omega) c386
  have c408 : h404[b+183]? = some (.inl (.int, 768, .inl (fun _ => 0))) := ab_other e405 (by omega) c387
  have c409 : h404[b+184]? = some (.inl (.int, 16, .inl (fun _ => 0))) := ab_other e405 (by omega) c388
  have c410 : h404[b+185]? = some (.inl (.int, 16, .inl (fun _ => 0))) := ab_other e405 (by omega) c389
  have c411 : h404[b+186]? = some (.inl (.int, 16, .inl (fun _ => 0))) := ab_other e405 (by omega) c390
  have c412 : h404[b+187]? = some (.inl (.int, 16, .inl (fun _ => 0))) := ab_other e405 (by omega) c391
  have c413 : h404[b+188]? = some (.inl (.int, 16, .inl (fun _ => 0))) := ab_other e405 (by omega) c392
  have c414 : h404[b+189]? = some (.inl (.int, 16, .inl (fun _ => 0))) := ab_other e405 (by omega) c393
  have c415 : h404[b+190]? = some (.inl (.int, 16, .inl (fun _ => 0))) := ab_other e405 (by omega) c384
  have l416 : h404.length = b + 191 := by rw [e405]; exact List.length_set.trans l403
  have f417 : ab_fr (fun i => i = b) h380 h404 := ab_fr_set (ab_fr_rf _ _) e405 rfl
  have kf418 : at_Names h404 (b + 1) 68 (fun _ => .float 1) (fun _ _ => 0) := fr_Names f417 kf395 (by intro i hi hs; simp only [in_Names] at hi hs <;> omega)
  have kf419 : at_CSh h404 (b + 70) (fun _ => 0) (fun _ _ => 0) := fr_CSh f417 kf396 (by intro i hi hs; simp only [in_CSh] at hi hs <;> omega)
  have kf420 : at_Names h404 ((b + 70) + 1) 16 (fun _ => .float 1) (fun _ _ => 0) := fr_Names f417 kf397 (by intro i hi hs; simp only [in_Names] at hi hs <;> omega)
  have kf421 : at_Names h404 ((b + 70) + 18) 48 (fun _ => .float 1) (fun _ _ => 0) := fr_Names f417 kf398 (by intro i hi hs; simp only [in_Names] at hi hs <;> omega)
  have kf422 : at_ESh h404 (b + 138) (fun _ => 0) (fun _ _ => 0) := fr_ESh f417 kf399 (by intro i hi hs; simp only [in_ESh] at hi hs <;> omega)
  have kf423 : at_Names h404 ((b + 138) + 1) 8 (fun _ => .float 1) (fun _ _ => 0) := fr_Names f417 kf400 (by intro i hi hs; simp only [in_Names] at hi hs <;> omega)
  have kf424 : at_Names h404 ((b + 138) + 10) 32 (fun _ => .float 1) (fun _ _ => 0) := fr_Names f417 kf401 (by intro i hi hs; simp only [in_Names] at hi hs <;> omega)
  have fr425 : ab_fr (in_up b) h h404 := ab_fr_set fr402 e405 (by first | (show _ ∧ _; omega) | (show _ ∨ _; omega) | (show _ = _; omega) | (show _ ≤ _; omega))
  clear c385 c386 c387 c388 c389 c390 c391 c392 c393 c384 kf395 kf396 kf397 kf398 kf399 kf400 kf401 l403 fr402 e405 f417
  try clear h380
  refine ab_aload_n d_Program_init_116 rfl rfl rfl ?_
  refine ab_sipush (v := 12000) d_Program_init_117 (by decide) ?_
  refine ab_newaL (N := 12000) l416 d_Program_init_120 rfl (k1 143 rfl rfl) tI (Or.inl rfl) (by decide) (by decide) (by decide) (by decide) (by decide) (fun h426 e427 e428 e429 => ?_)
  have c430 : h426[b + 191]? = some (.inl (.int, 12000, .inl (fun _ => 0))) := e428
  have c431 : h426[b]? = some (.inr (4, [.ref (b + 1), .int 0, .ref (b + 70), .ref (b + 138), .int 0, .ref (b + 182), .ref (b + 183), .int 0, .ref (b + 184), .ref (b + 185), .ref (b + 186), .ref (b + 187), .ref (b + 188), .ref (b + 189), .ref (b + 190), .int 0, .null, .int 0])) := (e429 _ (by omega)).trans c406
  have c432 : h426[b+182]? = some (.inl (.int, 16, .inl (fun _ => 0))) := (e429 _ (by omega)).trans c407
  have c433 : h426[b+183]? = some (.inl (.int, 768, .inl (fun _ => 0))) := (e429 _ (by omega)).trans c408
  have c434 : h426[b+184]? = some (.inl (.int, 16, .inl (fun _ => 0))) := (e429 _ (by omega)).trans c409
  have c435 : h426[b+185]? = some (.inl (.int, 16, .inl (fun _ => 0))) := (e429 _ (by omega)).trans c410
  have c436 : h426[b+186]? = some (.inl (.int, 16, .inl (fun _ => 0))) := (e429 _ (by omega)).trans c411
  have c437 : h426[b+187]? = some (.inl (.int, 16, .inl (fun _ => 0))) := (e429 _ (by omega)).trans c412
  have c438 : h426[b+188]? = some (.inl (.int, 16, .inl (fun _ => 0))) := (e429 _ (by omega)).trans c413
  have c439 : h426[b+189]? = some (.inl (.int, 16, .inl (fun _ => 0))) := (e429 _ (by omega)).trans c414
  have c440 : h426[b+190]? = some (.inl (.int, 16, .inl (fun _ => 0))) := (e429 _ (by omega)).trans c415
  have f441 : ab_fr (fun i => False) h404 h426 := ab_fr_new (ab_fr_rf _ _) e429 e427 l416
  have kf442 : at_Names h426 (b + 1) 68 (fun _ => .float 1) (fun _ _ => 0) := fr_Names f441 kf418 (by intro i hi hs; simp only [in_Names] at hi hs <;> omega)
  have kf443 : at_CSh h426 (b + 70) (fun _ => 0) (fun _ _ => 0) := fr_CSh f441 kf419 (by intro i hi hs; simp only [in_CSh] at hi hs <;> omega)
  have kf444 : at_Names h426 ((b + 70) + 1) 16 (fun _ => .float 1) (fun _ _ => 0) := fr_Names f441 kf420 (by intro i hi hs; simp only [in_Names] at hi hs <;> omega)
  have kf445 : at_Names h426 ((b + 70) + 18) 48 (fun _ => .float 1) (fun _ _ => 0) := fr_Names f441 kf421 (by intro i hi hs; simp only [in_Names] at hi hs <;> omega)
  have kf446 : at_ESh h426 (b + 138) (fun _ => 0) (fun _ _ => 0) := fr_ESh f441 kf422 (by intro i hi hs; simp only [in_ESh] at hi hs <;> omega)
  have kf447 : at_Names h426 ((b + 138) + 1) 8 (fun _ => .float 1) (fun _ _ => 0) := fr_Names f441 kf423 (by intro i hi hs; simp only [in_Names] at hi hs <;> omega)
  have kf448 : at_Names h426 ((b + 138) + 10) 32 (fun _ => .float 1) (fun _ _ => 0) := fr_Names f441 kf424 (by intro i hi hs; simp only [in_Names] at hi hs <;> omega)
  have fr449 : ab_fr (in_up b) h h426 := ab_fr_new fr425 e429 e427 l416
  have l450 : h426.length = b + 192 := e427
  clear c406 c407 c408 c409 c410 c411 c412 c413 c414 c415 kf418 kf419 kf420 kf421 kf422 kf423 kf424 e427 e428 e429 f441 l416 fr425
  try clear h404
  refine ab_putF (f := 16) d_Program_init_122 c431 rfl (by decide) (k3 110 rfl rfl) rfl rfl rfl rfl (fun _ => rfl) (fun _ => rfl) (Nat.le_of_ble_eq_true rfl) ?_
  show ab_V _ _ _ _ _ _ _ 125 [some (.ref b)] [] (h426.set b (.inr (4, [.ref (b + 1), .int 0, .ref (b + 70), .ref (b + 138), .int 0, .ref (b + 182), .ref (b + 183), .int 0, .ref (b + 184), .ref (b + 185), .ref (b + 186), .ref (b + 187), .ref (b + 188), .ref (b + 189), .ref (b + 190), .int 0, .ref (b + 191), .int 0])))
  refine ab_gen (fun h451 e452 => ?_)
  have c453 : h451[b]? = some (.inr (4, [.ref (b + 1), .int 0, .ref (b + 70), .ref (b + 138), .int 0, .ref (b + 182), .ref (b + 183), .int 0, .ref (b + 184), .ref (b + 185), .ref (b + 186), .ref (b + 187), .ref (b + 188), .ref (b + 189), .ref (b + 190), .int 0, .ref (b + 191), .int 0])) := ab_self e452 c431
  have c454 : h451[b+182]? = some (.inl (.int, 16, .inl (fun _ => 0))) := ab_other e452 (by omega) c432
  have c455 : h451[b+183]? = some (.inl (.int, 768, .inl (fun _ => 0))) := ab_other e452 (by omega) c433
  have c456 : h451[b+184]? = some (.inl (.int, 16, .inl (fun _ => 0))) := ab_other e452 (by omega) c434
  have c457 : h451[b+185]? = some (.inl (.int, 16, .inl (fun _ => 0))) := ab_other e452 (by omega) c435
  have c458 : h451[b+186]? = some (.inl (.int, 16, .inl (fun _ => 0))) := ab_other e452 (by omega) c436
  have c459 : h451[b+187]? = some (.inl (.int, 16, .inl (fun _ => 0))) := ab_other e452 (by omega) c437
  have c460 : h451[b+188]? = some (.inl (.int, 16, .inl (fun _ => 0))) := ab_other e452 (by omega) c438
  have c461 : h451[b+189]? = some (.inl (.int, 16, .inl (fun _ => 0))) := ab_other e452 (by omega) c439
  have c462 : h451[b+190]? = some (.inl (.int, 16, .inl (fun _ => 0))) := ab_other e452 (by omega) c440
  have c463 : h451[b+191]? = some (.inl (.int, 12000, .inl (fun _ => 0))) := ab_other e452 (by omega) c430
  have l464 : h451.length = b + 192 := by rw [e452]; exact List.length_set.trans l450
  have f465 : ab_fr (fun i => i = b) h426 h451 := ab_fr_set (ab_fr_rf _ _) e452 rfl
  have kf466 : at_Names h451 (b + 1) 68 (fun _ => .float 1) (fun _ _ => 0) := fr_Names f465 kf442 (by intro i hi hs; simp only [in_Names] at hi hs <;> omega)
  have kf467 : at_CSh h451 (b + 70) (fun _ => 0) (fun _ _ => 0) := fr_CSh f465 kf443 (by intro i hi hs; simp only [in_CSh] at hi hs <;> omega)
  have kf468 : at_Names h451 ((b + 70) + 1) 16 (fun _ => .float 1) (fun _ _ => 0) := fr_Names f465 kf444 (by intro i hi hs; simp only [in_Names] at hi hs <;> omega)
  have kf469 : at_Names h451 ((b + 70) + 18) 48 (fun _ => .float 1) (fun _ _ => 0) := fr_Names f465 kf445 (by intro i hi hs; simp only [in_Names] at hi hs <;> omega)
  have kf470 : at_ESh h451 (b + 138) (fun _ => 0) (fun _ _ => 0) := fr_ESh f465 kf446 (by intro i hi hs; simp only [in_ESh] at hi hs <;> omega)
  have kf471 : at_Names h451 ((b + 138) + 1) 8 (fun _ => .float 1) (fun _ _ => 0) := fr_Names f465 kf447 (by intro i hi hs; simp only [in_Names] at hi hs <;> omega)
  have kf472 : at_Names h451 ((b + 138) + 10) 32 (fun _ => .float 1) (fun _ _ => 0) := fr_Names f465 kf448 (by intro i hi hs; simp only [in_Names] at hi hs <;> omega)
  have fr473 : ab_fr (in_up b) h h451 := ab_fr_set fr449 e452 (by first | (show _ ∧ _; omega) | (show _ ∨ _; omega) | (show _ = _; omega) | (show _ ≤ _; omega))
  clear c431 c432 c433 c434 c435 c436 c437 c438 c439 c440 c430 kf442 kf443 kf444 kf445 kf446 kf447 kf448 l450 fr449 e452 f465
  try clear h426
  exact ab_vret d_Program_init_125 rfl (by decide) (by decide) (by exact ⟨rfl, ⟨⟨c453, c454, c455, c456, c457, c458, c459, c460, c461, c462, c463⟩, kf466, kf467, kf468, kf469, kf470, kf471, kf472⟩, l464, fr473⟩)
def s0_W (w : Int32) : Nat → Int32 := upd (fun _ => 0) 7 ((1 <<< ((if 1 < (if w < 8 then w else 8) then (if w < 8 then w else 8) else 1) &&& 31)) - 1)
def at_W0 (h : List ab_E) (b : Nat) (w : Int32) : Prop := at_W h b (b + 133) (b + 325) (s0_W w) (fun _ _ => 0) ∧ at_Lexer h (b + 1) (fun _ => 0) a0_Lexer ∧ at_Reader h (b + 8) (b + 1) .null (fun _ => 0) (fun _ _ => 0) ∧ at_Body h (b + 9) (b + 1) .null (fun _ => 0) (fun _ _ => 0) ∧ at_Play0 h (b + 11) ∧ at_Store h (b + 131) (fun _ => 0) (fun _ _ => 0) ∧ at_Prog0 h (b + 133) ∧ at_Prog0 h (b + 325)
def in_W0 (b : Nat) : Nat → Prop := fun i => b ≤ i ∧ i ≤ b + 516
theorem fr_W0 {S : Nat → Prop} {h h1 : List ab_E} {b : Nat}  {w : Int32} (hf : ab_fr S h h1) (h0 : at_W0 h b w) (hn : ∀ i, in_W0 b i → ¬ S i) : at_W0 h1 b w := by
  obtain ⟨g0, g1, g2, g3, g4, g5, g6, g7⟩ := h0
  exact ⟨fr_W hf g0 (fun i hi => hn i (by simp only [in_W] at hi; show _ ∧ _; omega)), fr_Lexer hf g1 (fun i hi => hn i (by simp only [in_Lexer] at hi; show _ ∧ _; omega)), fr_Reader hf g2 (fun i hi => hn i (by simp only [in_Reader] at hi; show _ ∧ _; omega)), fr_Body hf g3 (fun i hi => hn i (by simp only [in_Body] at hi; show _ ∧ _; omega)), fr_Play0 hf g4 (fun i hi => hn i (by simp only [in_Play0] at hi; show _ ∧ _; omega)), fr_Store hf g5 (fun i hi => hn i (by simp only [in_Store] at hi; show _ ∧ _; omega)), fr_Prog0 hf g6 (fun i hi => hn i (by simp only [in_Prog0] at hi; show _ ∧ _; omega)), fr_Prog0 hf g7 (fun i hi => hn i (by simp only [in_Prog0] at hi; show _ ∧ _; omega))⟩
set_option maxRecDepth 20000 in
set_option maxHeartbeats 2000000 in
theorem c_W_init {h : List ab_E}  {b : Nat} {w : Int32}  (ho : h[b]? = some (.inr (0, [.null, .null, .null, .null, .null, .null, .int 0, .int 0, .int 0]))) (hlen : h.length = b + 1) : ab_M y_W_init { frames := 5, cells := 516, slots := 368726, locals := 200 } [.ref b, .int w] h (ab_A none (fun h1 => at_W0 h1 b w ∧ h1.length = b + 517 ∧ ab_fr (in_up b) h h1)) := by
  refine ab_of2 (lv := [some (.ref b), some (.int w)]) 0 rfl rfl (Nat.le_of_ble_eq_true rfl) ?_
  refine ab_aload_n d_W_init_0 rfl rfl rfl ?_
  refine ab_objInit d_W_init_1 (k1 36 rfl rfl) (k1 37 rfl rfl) (k1 38 rfl rfl) (by decide) (by decide) ?_
  refine ab_aload_n d_W_init_4 rfl rfl rfl ?_
  refine ab_newL (ci := 1) (fs := [.null, .int 0, .int 0, .int 0, .int 0, .int 0, .null, .null, .null, .null, .int 0, .int 0, .null]) hlen d_W_init_5 rfl (k1 39 rfl rfl) (k1 40 rfl rfl) (k1 2 rfl rfl) rfl rfl (by decide) (by decide) (fun h1 e2 e3 e4 => ?_)
  have c5 : h1[b + 1]? = some (.inr (1, [.null, .int 0, .int 0, .int 0, .int 0, .int 0, .null, .null, .null, .null, .int 0, .int 0, .null])) := e3
  have c6 : h1[b]? = some (.inr (0, [.null, .null, .null, .null, .null, .null, .int 0, .int 0, .int 0])) := (e4 _ (by omega)).trans ho
  have fr7 : ab_fr (in_up b) h h1 := ab_fr_new (ab_fr_rf _ _) e4 e2 hlen
  have l8 : h1.length = b + 2 := e2
  clear e2 e3 e4
  refine ab_dup d_W_init_8 rfl ?_
  refine ab_callI_v (As := []) (rest := [.ref (b + 1), .ref b]) d_W_init_9 (c_Lexer_init c5 l8) (ab_mkC s_Lexer_init (Nat.le_of_ble_eq_true rfl) (Nat.le_of_ble_eq_true rfl) (by decide) (by decide)) (k1 41 rfl rfl) i_Lexer_init rfl (k1 43 rfl rfl) rfl (Nat.le_of_ble_eq_true rfl) (fun h9 q10 => ?_)
  obtain ⟨kf11, l12, f13⟩ := q10
  replace l12 : h9.length = b + 8 := l12
  have c14 : h9[b]? = some (.inr (0, [.null, .null, .null, .null, .null, .null, .int 0, .int 0, .int 0])) := ab_fr_at f13 c6 (by simp only [in_up] <;> omega)
  have fr15 : ab_fr (in_up b) h h9 := ab_fr_tr fr7 (ab_fr_mono f13 (by intro i hi; simp only [in_up, in_up] at * <;> omega))
  clear c6 c5 l8 f13 fr7
  try clear h1
  replace kf11 : at_Lexer h9 (b + 1) (fun _ => 0) a0_Lexer := kf11
  refine ab_putF (f := 0) d_W_init_12 c14 rfl (by decide) (k3 157 rfl rfl) rfl rfl rfl rfl (fun _ => rfl) (fun _ => rfl) (Nat.le_of_ble_eq_true rfl) ?_
  show ab_V _ _ _ _ _ _ _ 15 [some (.ref b), some (.int w)] [] (h9.set b (.inr (0, [.ref (b + 1), .null, .null, .null, .null, .null, .int 0, .int 0, .int 0])))
  refine ab_gen (fun h16 e17 => ?_)
  have c18 : h16[b]? = some (.inr (0, [.ref (b + 1), .null, .null, .null, .null, .null, .int 0, .int 0, .int 0])) := ab_self e17 c14
  have l19 : h16.length = b + 8 := by rw [e17]; exact List.length_set.trans l12
  have f20 : ab_fr (fun i => i = b) h9 h16 := ab_fr_set (ab_fr_rf _ _) e17 rfl
  have kf21 : at_Lexer h16 (b + 1) (fun _ => 0) a0_Lexer := fr_Lexer f20 kf11 (by intro i hi hs; simp only [in_Lexer] at hi hs <;> omega)
  have fr22 : ab_fr (in_up b) h h16 := ab_fr_set fr15 e17 (by first | (show _ ∧ _; omega) | (show _ ∨ _; omega) | (show _ = _; omega) | (show _ ≤ _; omega))
  clear c14 kf11 l12 fr15 e17 f20
  try clear h9
  refine ab_aload_n d_W_init_15 rfl rfl rfl ?_
  refine ab_newL (ci := 5) (fs := [.null, .null, .null]) l19 d_W_init_16 rfl (k1 145 rfl rfl) (k1 146 rfl rfl) (k1 7 rfl rfl) rfl rfl (by decide) (by decide) (fun h23 e24 e25 e26 => ?_)
  have c27 : h23[b + 8]? = some (.inr (5, [.null, .null, .null])) := e25
  have c28 : h23[b]? = some (.inr (0, [.ref (b + 1), .null, .null, .null, .null, .null, .int 0, .int 0, .int 0])) := (e26 _ (by omega)).trans c18
  have f29 : ab_fr (fun i => False) h16 h23 := ab_fr_new (ab_fr_rf _ _) e26 e24 l19
  have kf30 : at_Lexer h23 (b + 1) (fun _ => 0) a0_Lexer := fr_Lexer f29 kf21 (by intro i hi hs; simp only [in_Lexer] at hi hs <;> omega)
  have fr31 : ab_fr (in_up b) h h23 := ab_fr_new fr22 e26 e24 l19
  have l32 : h23.length = b + 9 := e24
  clear c18 kf21 e24 e25 e26 f29 l19 fr22
  try clear h16
  refine ab_dup d_W_init_19 rfl ?_
  refine ab_aload_n d_W_init_20 rfl rfl rfl ?_
  refine ab_get (f := 0) d_W_init_21 c28 rfl (by decide) (k3 157 rfl rfl) rfl ?_
  refine ab_callI_v (As := [.ref (b + 1)]) (rest := [.ref (b + 8), .ref b]) d_W_init_24 (c_Reader_init c27 l32) (ab_mkC s_Reader_init (Nat.le_of_ble_eq_true rfl) (Nat.le_of_ble_eq_true rfl) (by decide) (by decide)) (k1 147 rfl rfl) i_Reader_init rfl (k1 149 rfl rfl) rfl (Nat.le_of_ble_eq_true rfl) (fun h33 q34 => ?_)
  obtain ⟨kf35, kf36, l37, f38⟩ := q34
  replace l37 : h33.length = b + 11 := l37
  have c39 : h33[b]? = some (.inr (0, [.ref (b + 1), .null, .null, .null, .null, .null, .int 0, .int 0, .int 0])) := ab_fr_at f38 c28 (by simp only [in_up] <;> omega)
  have kf40 : at_Lexer h33 (b + 1) (fun _ => 0) a0_Lexer := fr_Lexer f38 kf30 (by intro i hi hs; simp only [in_Lexer, in_up] at hi hs <;> omega)
  have fr41 : ab_fr (in_up b) h h33 := ab_fr_tr fr31 (ab_fr_mono f38 (by intro i hi; simp only [in_up, in_up] at * <;> omega))
  clear c28 c27 kf30 l32 f38 fr31
  try clear h23
  replace kf35 : at_Reader h33 (b + 8) (b + 1) .null (fun _ => 0) (fun _ _ => 0) := kf35
  replace kf36 : at_Body h33 ((b + 8) + 1) (b + 1) .null (fun _ => 0) (fun _ _ => 0) := kf36
  refine ab_putF (f := 1) d_W_init_27 c39 rfl (by decide) (k3 158 rfl rfl) rfl rfl rfl rfl (fun _ => rfl) (fun _ => rfl) (Nat.le_of_ble_eq_true rfl) ?_
  show ab_V _ _ _ _ _ _ _ 30 [some (.ref b), some (.int w)] [] (h33.set b (.inr (0, [.ref (b + 1), .ref (b + 8), .null, .null, .null, .null, .int 0, .int 0, .int 0])))
  refine ab_gen (fun h42 e43 => ?_)
  have c44 : h42[b]? = some (.inr (0, [.ref (b + 1), .ref (b + 8), .null, .null, .null, .null, .int 0, .int 0, .int 0])) := ab_self e43 c39
  have l45 : h42.length = b + 11 := by rw [e43]; exact List.length_set.trans l37
  have f46 : ab_fr (fun i => i = b) h33 h42 := ab_fr_set (ab_fr_rf _ _) e43 rfl
  have kf47 : at_Lexer h42 (b + 1) (fun _ => 0) a0_Lexer := fr_Lexer f46 kf40 (by intro i hi hs; simp only [in_Lexer] at hi hs <;> omega)
  have kf48 : at_Reader h42 (b + 8) (b + 1) .null (fun _ => 0) (fun _ _ => 0) := fr_Reader f46 kf35 (by intro i hi hs; simp only [in_Reader] at hi hs <;> omega)
  have kf49 : at_Body h42 ((b + 8) + 1) (b + 1) .null (fun _ => 0) (fun _ _ => 0) := fr_Body f46 kf36 (by intro i hi hs; simp only [in_Body] at hi hs <;> omega)
  have fr50 : ab_fr (in_up b) h h42 := ab_fr_set fr41 e43 (by first | (show _ ∧ _; omega) | (show _ ∨ _; omega) | (show _ = _; omega) | (show _ ≤ _; omega))
  clear c39 kf40 kf35 kf36 l37 fr41 e43 f46
  try clear h33
  refine ab_aload_n d_W_init_30 rfl rfl rfl ?_
  refine ab_newL (ci := 10) (fs := [.null, .int 0, .int 0, .int 0, .null, .int 0, .null, .null, .null, .null, .null, .null, .null, .null]) l45 d_W_init_31 rfl (k1 189 rfl rfl) (k1 190 rfl rfl) (k1 9 rfl rfl) rfl rfl (by decide) (by decide) (fun h51 e52 e53 e54 => ?_)
  have c55 : h51[b + 11]? = some (.inr (10, [.null, .int 0, .int 0, .int 0, .null, .int 0, .null, .null, .null, .null, .null, .null, .null, .null])) := e53
  have c56 : h51[b]? = some (.inr (0, [.ref (b + 1), .ref (b + 8), .null, .null, .null, .null, .int 0, .int 0, .int 0])) := (e54 _ (by omega)).trans c44
  have f57 : ab_fr (fun i => False) h42 h51 := ab_fr_new (ab_fr_rf _ _) e54 e52 l45
  have kf58 : at_Lexer h51 (b + 1) (fun _ => 0) a0_Lexer := fr_Lexer f57 kf47 (by intro i hi hs; simp only [in_Lexer] at hi hs <;> omega)
  have kf59 : at_Reader h51 (b + 8) (b + 1) .null (fun _ => 0) (fun _ _ => 0) := fr_Reader f57 kf48 (by intro i hi hs; simp only [in_Reader] at hi hs <;> omega)
  have kf60 : at_Body h51 ((b + 8) + 1) (b + 1) .null (fun _ => 0) (fun _ _ => 0) := fr_Body f57 kf49 (by intro i hi hs; simp only [in_Body] at hi hs <;> omega)
  have fr61 : ab_fr (in_up b) h h51 := ab_fr_new fr50 e54 e52 l45
  have l62 : h51.length = b + 12 := e52
  clear c44 kf47 kf48 kf49 e52 e53 e54 f57 l45 fr50
  try clear h42
  refine ab_dup d_W_init_34 rfl ?_
  refine ab_callI_v (As := []) (rest := [.ref (b + 11), .ref b]) d_W_init_35 (c_Play_init c55 l62) (ab_mkC s_Play_init (Nat.le_of_ble_eq_true rfl) (Nat.le_of_ble_eq_true rfl) (by decide) (by decide)) (k1 191 rfl rfl) i_Play_init rfl (k1 193 rfl rfl) rfl (Nat.le_of_ble_eq_true rfl) (fun h63 q64 => ?_)
  obtain ⟨kf65, l66, f67⟩ := q64
  replace l66 : h63.length = b + 131 := l66
  have c68 : h63[b]? = some (.inr (0, [.ref (b + 1), .ref (b + 8), .null, .null, .null, .null, .int 0, .int 0, .int 0])) := ab_fr_at f67 c56 (by simp only [in_up] <;> omega)
  have kf69 : at_Lexer h63 (b + 1) (fun _ => 0) a0_Lexer := fr_Lexer f67 kf58 (by intro i hi hs; simp only [in_Lexer, in_up] at hi hs <;> omega)
  have kf70 : at_Reader h63 (b + 8) (b + 1) .null (fun _ => 0) (fun _ _ => 0) := fr_Reader f67 kf59 (by intro i hi hs; simp only [in_Reader, in_up] at hi hs <;> omega)
  have kf71 : at_Body h63 ((b + 8) + 1) (b + 1) .null (fun _ => 0) (fun _ _ => 0) := fr_Body f67 kf60 (by intro i hi hs; simp only [in_Body, in_up] at hi hs <;> omega)
  have fr72 : ab_fr (in_up b) h h63 := ab_fr_tr fr61 (ab_fr_mono f67 (by intro i hi; simp only [in_up, in_up] at * <;> omega))
  clear c56 c55 kf58 kf59 kf60 l62 f67 fr61
  try clear h51
  replace kf65 : at_Play0 h63 (b + 11) := kf65
  refine ab_putF (f := 2) d_W_init_38 c68 rfl (by decide) (k3 159 rfl rfl) rfl rfl rfl rfl (fun _ => rfl) (fun _ => rfl) (Nat.le_of_ble_eq_true rfl) ?_
  show ab_V _ _ _ _ _ _ _ 41 [some (.ref b), some (.int w)] [] (h63.set b (.inr (0, [.ref (b + 1), .ref (b + 8), .ref (b + 11), .null, .null, .null, .int 0, .int 0, .int 0])))
  refine ab_gen (fun h73 e74 => ?_)
  have c75 : h73[b]? = some (.inr (0, [.ref (b + 1), .ref (b + 8), .ref (b + 11), .null, .null, .null, .int 0, .int 0, .int 0])) := ab_self e74 c68
  have l76 : h73.length = b + 131 := by rw [e74]; exact List.length_set.trans l66
  have f77 : ab_fr (fun i => i = b) h63 h73 := ab_fr_set (ab_fr_rf _ _) e74 rfl
  have kf78 : at_Lexer h73 (b + 1) (fun _ => 0) a0_Lexer := fr_Lexer f77 kf69 (by intro i hi hs; simp only [in_Lexer] at hi hs <;> omega)
  have kf79 : at_Reader h73 (b + 8) (b + 1) .null (fun _ => 0) (fun _ _ => 0) := fr_Reader f77 kf70 (by intro i hi hs; simp only [in_Reader] at hi hs <;> omega)
  have kf80 : at_Body h73 ((b + 8) + 1) (b + 1) .null (fun _ => 0) (fun _ _ => 0) := fr_Body f77 kf71 (by intro i hi hs; simp only [in_Body] at hi hs <;> omega)
  have kf81 : at_Play0 h73 (b + 11) := fr_Play0 f77 kf65 (by intro i hi hs; simp only [in_Play0] at hi hs <;> omega)
  have fr82 : ab_fr (in_up b) h h73 := ab_fr_set fr72 e74 (by first | (show _ ∧ _; omega) | (show _ ∨ _; omega) | (show _ = _; omega) | (show _ ≤ _; omega))
  clear c68 kf69 kf70 kf71 kf65 l66 fr72 e74 f77
  try clear h63
  refine ab_aload_n d_W_init_41 rfl rfl rfl ?_
  refine ab_newL (ci := 11) (fs := [.null, .int 0, .int 0, .int 0, .int 0, .int 0]) l76 d_W_init_42 rfl (k2 179 rfl rfl) (k2 180 rfl rfl) (k1 14 rfl rfl) rfl rfl (by decide) (by decide) (fun h83 e84 e85 e86 => ?_)
  have c87 : h83[b + 131]? = some (.inr (11, [.null, .int 0, .int 0, .int 0, .int 0, .int 0])) := e85
  have c88 : h83[b]? = some (.inr (0, [.ref (b + 1), .ref (b + 8), .ref (b + 11), .null, .null, .null, .int 0, .int 0, .int 0])) := (e86 _ (by omega)).trans c75
  have f89 : ab_fr (fun i => False) h73 h83 := ab_fr_new (ab_fr_rf _ _) e86 e84 l76
  have kf90 : at_Lexer h83 (b + 1) (fun _ => 0) a0_Lexer := fr_Lexer f89 kf78 (by intro i hi hs; simp only [in_Lexer] at hi hs <;> omega)
  have kf91 : at_Reader h83 (b + 8) (b + 1) .null (fun _ => 0) (fun _ _ => 0) := fr_Reader f89 kf79 (by intro i hi hs; simp only [in_Reader] at hi hs <;> omega)
  have kf92 : at_Body h83 ((b + 8) + 1) (b + 1) .null (fun _ => 0) (fun _ _ => 0) := fr_Body f89 kf80 (by intro i hi hs; simp only [in_Body] at hi hs <;> omega)
  have kf93 : at_Play0 h83 (b + 11) := fr_Play0 f89 kf81 (by intro i hi hs; simp only [in_Play0] at hi hs <;> omega)
  have fr94 : ab_fr (in_up b) h h83 := ab_fr_new fr82 e86 e84 l76
  have l95 : h83.length = b + 132 := e84
  clear c75 kf78 kf79 kf80 kf81 e84 e85 e86 f89 l76 fr82
  try clear h73
  refine ab_dup d_W_init_45 rfl ?_
  refine ab_callI_v (As := []) (rest := [.ref (b + 131), .ref b]) d_W_init_46 (c_Store_init c87 l95) (ab_mkC s_Store_init (Nat.le_of_ble_eq_true rfl) (Nat.le_of_ble_eq_true rfl) (by decide) (by decide)) (k2 181 rfl rfl) i_Store_init rfl (k2 183 rfl rfl) rfl (Nat.le_of_ble_eq_true rfl) (fun h96 q97 => ?_)
  obtain ⟨kf98, l99, f100⟩ := q97
  replace l99 : h96.length = b + 133 := l99
  have c101 : h96[b]? = some (.inr (0, [.ref (b + 1), .ref (b + 8), .ref (b + 11), .null, .null, .null, .int 0, .int 0, .int 0])) := ab_fr_at f100 c88 (by simp only [in_up] <;> omega)
  have kf102 : at_Lexer h96 (b + 1) (fun _ => 0) a0_Lexer := fr_Lexer f100 kf90 (by intro i hi hs; simp only [in_Lexer, in_up] at hi hs <;> omega)
  have kf103 : at_Reader h96 (b + 8) (b + 1) .null (fun _ => 0) (fun _ _ => 0) := fr_Reader f100 kf91 (by intro i hi hs; simp only [in_Reader, in_up] at hi hs <;> omega)
  have kf104 : at_Body h96 ((b + 8) + 1) (b + 1) .null (fun _ => 0) (fun _ _ => 0) := fr_Body f100 kf92 (by intro i hi hs; simp only [in_Body, in_up] at hi hs <;> omega)
  have kf105 : at_Play0 h96 (b + 11) := fr_Play0 f100 kf93 (by intro i hi hs; simp only [in_Play0, in_up] at hi hs <;> omega)
  have fr106 : ab_fr (in_up b) h h96 := ab_fr_tr fr94 (ab_fr_mono f100 (by intro i hi; simp only [in_up, in_up] at * <;> omega))
  clear c88 c87 kf90 kf91 kf92 kf93 l95 f100 fr94
  try clear h83
  replace kf98 : at_Store h96 (b + 131) (fun _ => 0) (fun _ _ => 0) := kf98
  refine ab_putF (f := 3) d_W_init_49 c101 rfl (by decide) (k3 160 rfl rfl) rfl rfl rfl rfl (fun _ => rfl) (fun _ => rfl) (Nat.le_of_ble_eq_true rfl) ?_
  show ab_V _ _ _ _ _ _ _ 52 [some (.ref b), some (.int w)] [] (h96.set b (.inr (0, [.ref (b + 1), .ref (b + 8), .ref (b + 11), .ref (b + 131), .null, .null, .int 0, .int 0, .int 0])))
  refine ab_gen (fun h107 e108 => ?_)
  have c109 : h107[b]? = some (.inr (0, [.ref (b + 1), .ref (b + 8), .ref (b + 11), .ref (b + 131), .null, .null, .int 0, .int 0, .int 0])) := ab_self e108 c101
  have l110 : h107.length = b + 133 := by rw [e108]; exact List.length_set.trans l99
  have f111 : ab_fr (fun i => i = b) h96 h107 := ab_fr_set (ab_fr_rf _ _) e108 rfl
  have kf112 : at_Lexer h107 (b + 1) (fun _ => 0) a0_Lexer := fr_Lexer f111 kf102 (by intro i hi hs; simp only [in_Lexer] at hi hs <;> omega)
  have kf113 : at_Reader h107 (b + 8) (b + 1) .null (fun _ => 0) (fun _ _ => 0) := fr_Reader f111 kf103 (by intro i hi hs; simp only [in_Reader] at hi hs <;> omega)
  have kf114 : at_Body h107 ((b + 8) + 1) (b + 1) .null (fun _ => 0) (fun _ _ => 0) := fr_Body f111 kf104 (by intro i hi hs; simp only [in_Body] at hi hs <;> omega)
  have kf115 : at_Play0 h107 (b + 11) := fr_Play0 f111 kf105 (by intro i hi hs; simp only [in_Play0] at hi hs <;> omega)
  have kf116 : at_Store h107 (b + 131) (fun _ => 0) (fun _ _ => 0) := fr_Store f111 kf98 (by intro i hi hs; simp only [in_Store] at hi hs <;> omega)
  have fr117 : ab_fr (in_up b) h h107 := ab_fr_set fr106 e108 (by first | (show _ ∧ _; omega) | (show _ ∨ _; omega) | (show _ = _; omega) | (show _ ≤ _; omega))
  clear c101 kf102 kf103 kf104 kf105 kf98 l99 fr106 e108 f111
  try clear h96
  refine ab_aload_n d_W_init_52 rfl rfl rfl ?_
  refine ab_newL (ci := 4) (fs := [.null, .int 0, .null, .null, .int 0, .null, .null, .int 0, .null, .null, .null, .null, .null, .null, .null, .int 0, .null, .int 0]) l110 d_W_init_53 rfl (k2 208 rfl rfl) (k2 209 rfl rfl) (k1 15 rfl rfl) rfl rfl (by decide) (by decide) (fun h118 e119 e120 e121 => ?_)
  have c122 : h118[b + 133]? = some (.inr (4, [.null, .int 0, .null, .null, .int 0, .null, .null, .int 0, .null, .null, .null, .null, .null, .null, .null, .int 0, .null, .int 0])) := e120
  have c123 : h118[b]? = some (.inr (0, [.ref (b + 1), .ref (b + 8), .ref (b + 11), .ref (b + 131), .null, .null, .int 0, .int 0, .int 0])) := (e121 _ (by omega)).trans c109
  have f124 : ab_fr (fun i => False) h107 h118 := ab_fr_new (ab_fr_rf _ _) e121 e119 l110
  have kf125 : at_Lexer h118 (b + 1) (fun _ => 0) a0_Lexer := fr_Lexer f124 kf112 (by intro i hi hs; simp only [in_Lexer] at hi hs <;> omega)
  have kf126 : at_Reader h118 (b + 8) (b + 1) .null (fun _ => 0) (fun _ _ => 0) := fr_Reader f124 kf113 (by intro i hi hs; simp only [in_Reader] at hi hs <;> omega)
  have kf127 : at_Body h118 ((b + 8) + 1) (b + 1) .null (fun _ => 0) (fun _ _ => 0) := fr_Body f124 kf114 (by intro i hi hs; simp only [in_Body] at hi hs <;> omega)
  have kf128 : at_Play0 h118 (b + 11) := fr_Play0 f124 kf115 (by intro i hi hs; simp only [in_Play0] at hi hs <;> omega)
  have kf129 : at_Store h118 (b + 131) (fun _ => 0) (fun _ _ => 0) := fr_Store f124 kf116 (by intro i hi hs; simp only [in_Store] at hi hs <;> omega)
  have fr130 : ab_fr (in_up b) h h118 := ab_fr_new fr117 e121 e119 l110
  have l131 : h118.length = b + 134 := e119
  clear c109 kf112 kf113 kf114 kf115 kf116 e119 e120 e121 f124 l110 fr117
  try clear h107
  refine ab_dup d_W_init_56 rfl ?_
  refine ab_callI_v (As := []) (rest := [.ref (b + 133), .ref b]) d_W_init_57 (c_Program_init c122 l131) (ab_mkC s_Program_init (Nat.le_of_ble_eq_true rfl) (Nat.le_of_ble_eq_true rfl) (by decide) (by decide)) (k2 210 rfl rfl) i_Program_init rfl (k2 212 rfl rfl) rfl (Nat.le_of_ble_eq_true rfl) (fun h132 q133 => ?_)
  obtain ⟨kf134, l135, f136⟩ := q133
  replace l135 : h132.length = b + 325 := l135
  have c137 : h132[b]? = some (.inr (0, [.ref (b + 1), .ref (b + 8), .ref (b + 11), .ref (b + 131), .null, .null, .int 0, .int 0, .int 0])) := ab_fr_at f136 c123 (by simp only [in_up] <;> omega)
  have kf138 : at_Lexer h132 (b + 1) (fun _ => 0) a0_Lexer := fr_Lexer f136 kf125 (by intro i hi hs; simp only [in_Lexer, in_up] at hi hs <;> omega)
  have kf139 : at_Reader h132 (b + 8) (b + 1) .null (fun _ => 0) (fun _ _ => 0) := fr_Reader f136 kf126 (by intro i hi hs; simp only [in_Reader, in_up] at hi hs <;> omega)
  have kf140 : at_Body h132 ((b + 8) + 1) (b + 1) .null (fun _ => 0) (fun _ _ => 0) := fr_Body f136 kf127 (by intro i hi hs; simp only [in_Body, in_up] at hi hs <;> omega)
  have kf141 : at_Play0 h132 (b + 11) := fr_Play0 f136 kf128 (by intro i hi hs; simp only [in_Play0, in_up] at hi hs <;> omega)
  have kf142 : at_Store h132 (b + 131) (fun _ => 0) (fun _ _ => 0) := fr_Store f136 kf129 (by intro i hi hs; simp only [in_Store, in_up] at hi hs <;> omega)
  have fr143 : ab_fr (in_up b) h h132 := ab_fr_tr fr130 (ab_fr_mono f136 (by intro i hi; simp only [in_up, in_up] at * <;> omega))
  clear c123 c122 kf125 kf126 kf127 kf128 kf129 l131 f136 fr130
  try clear h118
  replace kf134 : at_Prog0 h132 (b + 133) := kf134
  refine ab_put (f := 4) d_W_init_60 c137 rfl (by decide) (k3 161 rfl rfl) rfl rfl (fun _ => rfl) (fun _ => rfl) (Nat.le_of_ble_eq_true rfl) ?_
  show ab_V _ _ _ _ _ _ _ 63 [some (.ref b), some (.int w)] [] (h132.set b (.inr (0, [.ref (b + 1), .ref (b + 8), .ref (b + 11), .ref (b + 131), .ref (b + 133), .null, .int 0, .int 0, .int 0])))
  refine ab_gen (fun h144 e145 => ?_)
  have c146 : h144[b]? = some (.inr (0, [.ref (b + 1), .ref (b + 8), .ref (b + 11), .ref (b + 131), .ref (b + 133), .null, .int 0, .int 0, .int 0])) := ab_self e145 c137
  have l147 : h144.length = b + 325 := by rw [e145]; exact List.length_set.trans l135
  have f148 : ab_fr (fun i => i = b) h132 h144 := ab_fr_set (ab_fr_rf _ _) e145 rfl
  have kf149 : at_Lexer h144 (b + 1) (fun _ => 0) a0_Lexer := fr_Lexer f148 kf138 (by intro i hi hs; simp only [in_Lexer] at hi hs <;> omega)
  have kf150 : at_Reader h144 (b + 8) (b + 1) .null (fun _ => 0) (fun _ _ => 0) := fr_Reader f148 kf139 (by intro i hi hs; simp only [in_Reader] at hi hs <;> omega)
  have kf151 : at_Body h144 ((b + 8) + 1) (b + 1) .null (fun _ => 0) (fun _ _ => 0) := fr_Body f148 kf140 (by intro i hi hs; simp only [in_Body] at hi hs <;> omega)
  have kf152 : at_Play0 h144 (b + 11) := fr_Play0 f148 kf141 (by intro i hi hs; simp only [in_Play0] at hi hs <;> omega)
  have kf153 : at_Store h144 (b + 131) (fun _ => 0) (fun _ _ => 0) := fr_Store f148 kf142 (by intro i hi hs; simp only [in_Store] at hi hs <;> omega)
  have kf154 : at_Prog0 h144 (b + 133) := fr_Prog0 f148 kf134 (by intro i hi hs; simp only [in_Prog0] at hi hs <;> omega)
  have fr155 : ab_fr (in_up b) h h144 := ab_fr_set fr143 e145 (by first | (show _ ∧ _; omega) | (show _ ∨ _; omega) | (show _ = _; omega) | (show _ ≤ _; omega))
  clear c137 kf138 kf139 kf140 kf141 kf142 kf134 l135 fr143 e145 f148
  try clear h132
  refine ab_aload_n d_W_init_63 rfl rfl rfl ?_
  refine ab_newL (ci := 4) (fs := [.null, .int 0, .null, .null, .int 0, .null, .null, .int 0, .null, .null, .null, .null, .null, .null, .null, .int 0, .null, .int 0]) l147 d_W_init_64 rfl (k2 208 rfl rfl) (k2 209 rfl rfl) (k1 15 rfl rfl) rfl rfl (by decide) (by decide) (fun h156 e157 e158 e159 => ?_)
  have c160 : h156[b + 325]? = some (.inr (4, [.null, .int 0, .null, .null, .int 0, .null, .null, .int 0, .null, .null, .null, .null, .null, .null, .null, .int 0, .null, .int 0])) := e158
  have c161 : h156[b]? = some (.inr (0, [.ref (b + 1), .ref (b + 8), .ref (b + 11), .ref (b + 131), .ref (b + 133), .null, .int 0, .int 0, .int 0])) := (e159 _ (by omega)).trans c146
  have f162 : ab_fr (fun i => False) h144 h156 := ab_fr_new (ab_fr_rf _ _) e159 e157 l147
  have kf163 : at_Lexer h156 (b + 1) (fun _ => 0) a0_Lexer := fr_Lexer f162 kf149 (by intro i hi hs; simp only [in_Lexer] at hi hs <;> omega)
  have kf164 : at_Reader h156 (b + 8) (b + 1) .null (fun _ => 0) (fun _ _ => 0) := fr_Reader f162 kf150 (by intro i hi hs; simp only [in_Reader] at hi hs <;> omega)
  have kf165 : at_Body h156 ((b + 8) + 1) (b + 1) .null (fun _ => 0) (fun _ _ => 0) := fr_Body f162 kf151 (by intro i hi hs; simp only [in_Body] at hi hs <;> omega)
  have kf166 : at_Play0 h156 (b + 11) := fr_Play0 f162 kf152 (by intro i hi hs; simp only [in_Play0] at hi hs <;> omega)
  have kf167 : at_Store h156 (b + 131) (fun _ => 0) (fun _ _ => 0) := fr_Store f162 kf153 (by intro i hi hs; simp only [in_Store] at hi hs <;> omega)
  have kf168 : at_Prog0 h156 (b + 133) := fr_Prog0 f162 kf154 (by intro i hi hs; simp only [in_Prog0] at hi hs <;> omega)
  have fr169 : ab_fr (in_up b) h h156 := ab_fr_new fr155 e159 e157 l147
  have l170 : h156.length = b + 326 := e157
  clear c146 kf149 kf150 kf151 kf152 kf153 kf154 e157 e158 e159 f162 l147 fr155
  try clear h144
  refine ab_dup d_W_init_67 rfl ?_
  refine ab_callI_v (As := []) (rest := [.ref (b + 325), .ref b]) d_W_init_68 (c_Program_init c160 l170) (ab_mkC s_Program_init (Nat.le_of_ble_eq_true rfl) (Nat.le_of_ble_eq_true rfl) (by decide) (by decide)) (k2 210 rfl rfl) i_Program_init rfl (k2 212 rfl rfl) rfl (Nat.le_of_ble_eq_true rfl) (fun h171 q172 => ?_)
  obtain ⟨kf173, l174, f175⟩ := q172
  replace l174 : h171.length = b + 517 := l174
  have c176 : h171[b]? = some (.inr (0, [.ref (b + 1), .ref (b + 8), .ref (b + 11), .ref (b + 131), .ref (b + 133), .null, .int 0, .int 0, .int 0])) := ab_fr_at f175 c161 (by simp only [in_up] <;> omega)
  have kf177 : at_Lexer h171 (b + 1) (fun _ => 0) a0_Lexer := fr_Lexer f175 kf163 (by intro i hi hs; simp only [in_Lexer, in_up] at hi hs <;> omega)
  have kf178 : at_Reader h171 (b + 8) (b + 1) .null (fun _ => 0) (fun _ _ => 0) := fr_Reader f175 kf164 (by intro i hi hs; simp only [in_Reader, in_up] at hi hs <;> omega)
  have kf179 : at_Body h171 ((b + 8) + 1) (b + 1) .null (fun _ => 0) (fun _ _ => 0) := fr_Body f175 kf165 (by intro i hi hs; simp only [in_Body, in_up] at hi hs <;> omega)
  have kf180 : at_Play0 h171 (b + 11) := fr_Play0 f175 kf166 (by intro i hi hs; simp only [in_Play0, in_up] at hi hs <;> omega)
  have kf181 : at_Store h171 (b + 131) (fun _ => 0) (fun _ _ => 0) := fr_Store f175 kf167 (by intro i hi hs; simp only [in_Store, in_up] at hi hs <;> omega)
  have kf182 : at_Prog0 h171 (b + 133) := fr_Prog0 f175 kf168 (by intro i hi hs; simp only [in_Prog0, in_up] at hi hs <;> omega)
  have fr183 : ab_fr (in_up b) h h171 := ab_fr_tr fr169 (ab_fr_mono f175 (by intro i hi; simp only [in_up, in_up] at * <;> omega))
  clear c161 c160 kf163 kf164 kf165 kf166 kf167 kf168 l170 f175 fr169
  try clear h156
  replace kf173 : at_Prog0 h171 (b + 325) := kf173
  refine ab_put (f := 5) d_W_init_71 c176 rfl (by decide) (k3 162 rfl rfl) rfl rfl (fun _ => rfl) (fun _ => rfl) (Nat.le_of_ble_eq_true rfl) ?_
  show ab_V _ _ _ _ _ _ _ 74 [some (.ref b), some (.int w)] [] (h171.set b (.inr (0, [.ref (b + 1), .ref (b + 8), .ref (b + 11), .ref (b + 131), .ref (b + 133), .ref (b + 325), .int 0, .int 0, .int 0])))
  refine ab_gen (fun h184 e185 => ?_)
  have c186 : h184[b]? = some (.inr (0, [.ref (b + 1), .ref (b + 8), .ref (b + 11), .ref (b + 131), .ref (b + 133), .ref (b + 325), .int 0, .int 0, .int 0])) := ab_self e185 c176
  have l187 : h184.length = b + 517 := by rw [e185]; exact List.length_set.trans l174
  have f188 : ab_fr (fun i => i = b) h171 h184 := ab_fr_set (ab_fr_rf _ _) e185 rfl
  have kf189 : at_Lexer h184 (b + 1) (fun _ => 0) a0_Lexer := fr_Lexer f188 kf177 (by intro i hi hs; simp only [in_Lexer] at hi hs <;> omega)
  have kf190 : at_Reader h184 (b + 8) (b + 1) .null (fun _ => 0) (fun _ _ => 0) := fr_Reader f188 kf178 (by intro i hi hs; simp only [in_Reader] at hi hs <;> omega)
  have kf191 : at_Body h184 ((b + 8) + 1) (b + 1) .null (fun _ => 0) (fun _ _ => 0) := fr_Body f188 kf179 (by intro i hi hs; simp only [in_Body] at hi hs <;> omega)
  have kf192 : at_Play0 h184 (b + 11) := fr_Play0 f188 kf180 (by intro i hi hs; simp only [in_Play0] at hi hs <;> omega)
  have kf193 : at_Store h184 (b + 131) (fun _ => 0) (fun _ _ => 0) := fr_Store f188 kf181 (by intro i hi hs; simp only [in_Store] at hi hs <;> omega)
  have kf194 : at_Prog0 h184 (b + 133) := fr_Prog0 f188 kf182 (by intro i hi hs; simp only [in_Prog0] at hi hs <;> omega)
  have kf195 : at_Prog0 h184 (b + 325) := fr_Prog0 f188 kf173 (by intro i hi hs; simp only [in_Prog0] at hi hs <;> omega)
  have fr196 : ab_fr (in_up b) h h184 := ab_fr_set fr183 e185 (by first | (show _ ∧ _; omega) | (show _ ∨ _; omega) | (show _ = _; omega) | (show _ ≤ _; omega))
  clear c176 kf177 kf178 kf179 kf180 kf181 kf182 kf173 l174 fr183 e185 f188
  try clear h171
  refine ab_aload_n d_W_init_74 rfl rfl rfl ?_
  refine ab_iconst (v := 0) d_W_init_75 (by decide) ?_
  refine ab_put (f := 6) d_W_init_76 c186 rfl (by decide) (k3 163 rfl rfl) rfl rfl (fun _ => rfl) (fun _ => rfl) (Nat.le_of_ble_eq_true rfl) ?_
  show ab_V _ _ _ _ _ _ _ 79 [some (.ref b), some (.int w)] [] (h184.set b (.inr (0, [.ref (b + 1), .ref (b + 8), .ref (b + 11), .ref (b + 131), .ref (b + 133), .ref (b + 325), .int 0, .int 0, .int 0])))
  refine ab_gen (fun h197 e198 => ?_)
  have c199 : h197[b]? = some (.inr (0, [.ref (b + 1), .ref (b + 8), .ref (b + 11), .ref (b + 131), .ref (b + 133), .ref (b + 325), .int 0, .int 0, .int 0])) := ab_self e198 c186
  have l200 : h197.length = b + 517 := by rw [e198]; exact List.length_set.trans l187
  have f201 : ab_fr (fun i => i = b) h184 h197 := ab_fr_set (ab_fr_rf _ _) e198 rfl
  have kf202 : at_Lexer h197 (b + 1) (fun _ => 0) a0_Lexer := fr_Lexer f201 kf189 (by intro i hi hs; simp only [in_Lexer] at hi hs <;> omega)
  have kf203 : at_Reader h197 (b + 8) (b + 1) .null (fun _ => 0) (fun _ _ => 0) := fr_Reader f201 kf190 (by intro i hi hs; simp only [in_Reader] at hi hs <;> omega)
  have kf204 : at_Body h197 ((b + 8) + 1) (b + 1) .null (fun _ => 0) (fun _ _ => 0) := fr_Body f201 kf191 (by intro i hi hs; simp only [in_Body] at hi hs <;> omega)
  have kf205 : at_Play0 h197 (b + 11) := fr_Play0 f201 kf192 (by intro i hi hs; simp only [in_Play0] at hi hs <;> omega)
  have kf206 : at_Store h197 (b + 131) (fun _ => 0) (fun _ _ => 0) := fr_Store f201 kf193 (by intro i hi hs; simp only [in_Store] at hi hs <;> omega)
  have kf207 : at_Prog0 h197 (b + 133) := fr_Prog0 f201 kf194 (by intro i hi hs; simp only [in_Prog0] at hi hs <;> omega)
  have kf208 : at_Prog0 h197 (b + 325) := fr_Prog0 f201 kf195 (by intro i hi hs; simp only [in_Prog0] at hi hs <;> omega)
  have fr209 : ab_fr (in_up b) h h197 := ab_fr_set fr196 e198 (by first | (show _ ∧ _; omega) | (show _ ∨ _; omega) | (show _ = _; omega) | (show _ ≤ _; omega))
  clear c186 kf189 kf190 kf191 kf192 kf193 kf194 kf195 l187 fr196 e198 f201
  try clear h184
  refine ab_aload_n d_W_init_79 rfl rfl rfl ?_
  refine ab_iconst (v := 1) d_W_init_80 (by decide) ?_
  refine ab_iconst (v := 1) d_W_init_81 (by decide) ?_
  refine ab_bipush (v := 8) d_W_init_82 (by decide) ?_
  refine ab_iload_n d_W_init_84 rfl rfl ?_
  refine ab_callS_a (As := [.int 8, .int w]) (rest := [.int 1, .int 1, .ref b]) d_W_init_85 (c_Math_min) (ab_mkC s_Math_min (Nat.le_of_ble_eq_true rfl) (Nat.le_of_ble_eq_true rfl) (by decide) (by decide)) (k3 153 rfl rfl) t_Math_min rfl (Nat.le_of_ble_eq_true rfl) (fun h211 q210 => ?_)
  subst q210
  refine ab_callS_a (As := [.int 1, .int (if w < 8 then w else 8)]) (rest := [.int 1, .ref b]) d_W_init_88 (c_Math_max) (ab_mkC s_Math_max (Nat.le_of_ble_eq_true rfl) (Nat.le_of_ble_eq_true rfl) (by decide) (by decide)) (k3 156 rfl rfl) t_Math_max rfl (Nat.le_of_ble_eq_true rfl) (fun h213 q212 => ?_)
  subst q212
  refine ab_ishl d_W_init_91 ?_
  refine ab_iconst (v := 1) d_W_init_92 (by decide) ?_
  refine ab_isub d_W_init_93 ?_
  refine ab_topi (fun x214 ex214 => ?_)
  refine ab_put (f := 7) d_W_init_94 c199 rfl (by decide) (k3 164 rfl rfl) rfl rfl (fun _ => rfl) (fun _ => rfl) (Nat.le_of_ble_eq_true rfl) ?_
  show ab_V _ _ _ _ _ _ _ 97 [some (.ref b), some (.int w)] [] (h197.set b (.inr (0, [.ref (b + 1), .ref (b + 8), .ref (b + 11), .ref (b + 131), .ref (b + 133), .ref (b + 325), .int 0, .int x214, .int 0])))
  refine ab_gen (fun h215 e216 => ?_)
  have c217 : h215[b]? = some (.inr (0, [.ref (b + 1), .ref (b + 8), .ref (b + 11), .ref (b + 131), .ref (b + 133), .ref (b + 325), .int 0, .int x214, .int 0])) := ab_self e216 c199
  have l218 : h215.length = b + 517 := by rw [e216]; exact List.length_set.trans l200
  have f219 : ab_fr (fun i => i = b) h197 h215 := ab_fr_set (ab_fr_rf _ _) e216 rfl
  have kf220 : at_Lexer h215 (b + 1) (fun _ => 0) a0_Lexer := fr_Lexer f219 kf202 (by intro i hi hs; simp only [in_Lexer] at hi hs <;> omega)
  have kf221 : at_Reader h215 (b + 8) (b + 1) .null (fun _ => 0) (fun _ _ => 0) := fr_Reader f219 kf203 (by intro i hi hs; simp only [in_Reader] at hi hs <;> omega)
  have kf222 : at_Body h215 ((b + 8) + 1) (b + 1) .null (fun _ => 0) (fun _ _ => 0) := fr_Body f219 kf204 (by intro i hi hs; simp only [in_Body] at hi hs <;> omega)
  have kf223 : at_Play0 h215 (b + 11) := fr_Play0 f219 kf205 (by intro i hi hs; simp only [in_Play0] at hi hs <;> omega)
  have kf224 : at_Store h215 (b + 131) (fun _ => 0) (fun _ _ => 0) := fr_Store f219 kf206 (by intro i hi hs; simp only [in_Store] at hi hs <;> omega)
  have kf225 : at_Prog0 h215 (b + 133) := fr_Prog0 f219 kf207 (by intro i hi hs; simp only [in_Prog0] at hi hs <;> omega)
  have kf226 : at_Prog0 h215 (b + 325) := fr_Prog0 f219 kf208 (by intro i hi hs; simp only [in_Prog0] at hi hs <;> omega)
  have fr227 : ab_fr (in_up b) h h215 := ab_fr_set fr209 e216 (by first | (show _ ∧ _; omega) | (show _ ∨ _; omega) | (show _ = _; omega) | (show _ ≤ _; omega))
  clear c199 kf202 kf203 kf204 kf205 kf206 kf207 kf208 l200 fr209 e216 f219
  try clear h197
  refine ab_aload_n d_W_init_97 rfl rfl rfl ?_
  refine ab_iconst (v := 0) d_W_init_98 (by decide) ?_
  refine ab_put (f := 8) d_W_init_99 c217 rfl (by decide) (k3 165 rfl rfl) rfl rfl (fun _ => rfl) (fun _ => rfl) (Nat.le_of_ble_eq_true rfl) ?_
  show ab_V _ _ _ _ _ _ _ 102 [some (.ref b), some (.int w)] [] (h215.set b (.inr (0, [.ref (b + 1), .ref (b + 8), .ref (b + 11), .ref (b + 131), .ref (b + 133), .ref (b + 325), .int 0, .int x214, .int 0])))
  refine ab_gen (fun h228 e229 => ?_)
  have c230 : h228[b]? = some (.inr (0, [.ref (b + 1), .ref (b + 8), .ref (b + 11), .ref (b + 131), .ref (b + 133), .ref (b + 325), .int 0, .int x214, .int 0])) := ab_self e229 c217
  have l231 : h228.length = b + 517 := by rw [e229]; exact List.length_set.trans l218
  have f232 : ab_fr (fun i => i = b) h215 h228 := ab_fr_set (ab_fr_rf _ _) e229 rfl
  have kf233 : at_Lexer h228 (b + 1) (fun _ => 0) a0_Lexer := fr_Lexer f232 kf220 (by intro i hi hs; simp only [in_Lexer] at hi hs <;> omega)
  have kf234 : at_Reader h228 (b + 8) (b + 1) .null (fun _ => 0) (fun _ _ => 0) := fr_Reader f232 kf221 (by intro i hi hs; simp only [in_Reader] at hi hs <;> omega)
  have kf235 : at_Body h228 ((b + 8) + 1) (b + 1) .null (fun _ => 0) (fun _ _ => 0) := fr_Body f232 kf222 (by intro i hi hs; simp only [in_Body] at hi hs <;> omega)
  have kf236 : at_Play0 h228 (b + 11) := fr_Play0 f232 kf223 (by intro i hi hs; simp only [in_Play0] at hi hs <;> omega)
  have kf237 : at_Store h228 (b + 131) (fun _ => 0) (fun _ _ => 0) := fr_Store f232 kf224 (by intro i hi hs; simp only [in_Store] at hi hs <;> omega)
  have kf238 : at_Prog0 h228 (b + 133) := fr_Prog0 f232 kf225 (by intro i hi hs; simp only [in_Prog0] at hi hs <;> omega)
  have kf239 : at_Prog0 h228 (b + 325) := fr_Prog0 f232 kf226 (by intro i hi hs; simp only [in_Prog0] at hi hs <;> omega)
  have fr240 : ab_fr (in_up b) h h228 := ab_fr_set fr227 e229 (by first | (show _ ∧ _; omega) | (show _ ∨ _; omega) | (show _ = _; omega) | (show _ ≤ _; omega))
  clear c217 kf220 kf221 kf222 kf223 kf224 kf225 kf226 l218 fr227 e229 f232
  try clear h215
  exact ab_vret d_W_init_102 rfl (by decide) (by decide) (by subst ex214; exact ⟨rfl, ⟨c230, kf233, kf234, kf235, kf236, kf237, kf238, kf239⟩, l231, fr240⟩)
