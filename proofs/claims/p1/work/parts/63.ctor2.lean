def at_Row (h : List ab_E) (b : Nat) (pv wv iv : Value) (s : Nat → Int32) (a : Nat → Nat → Int32) : Prop :=
  h[b]? = some (.inr (8, [.ref (b + 1), .int (s 1), pv, wv, iv, .ref (b + 2), .int (s 6), .ref (b + 3), .ref (b + 4), .ref (b + 5), .ref (b + 6), .ref (b + 7), .int (s 12), .int (s 13), .int (s 14), .int (s 15), .int (s 16), .int (s 17), .int (s 18)])) ∧ h[b + 1]? = some (.inl (.int, 704, .inl (a 0))) ∧ h[b + 2]? = some (.inl (.int, 160, .inl (a 5))) ∧ h[b + 3]? = some (.inl (.int, 12, .inl (a 7))) ∧ h[b + 4]? = some (.inl (.int, 21, .inl (a 8))) ∧ h[b + 5]? = some (.inl (.int, 21, .inl (a 9))) ∧ h[b + 6]? = some (.inl (.int, 11, .inl (a 10))) ∧ h[b + 7]? = some (.inl (.int, 48, .inl (a 11)))
def in_Row (b : Nat) : Nat → Prop := fun i => b ≤ i ∧ i ≤ b + 7
theorem fr_Row {S : Nat → Prop} {h h1 : List ab_E} {b : Nat}  {pv wv iv : Value} {s : Nat → Int32} {a : Nat → Nat → Int32} (hf : ab_fr S h h1) (h0 : at_Row h b pv wv iv s a) (hn : ∀ i, in_Row b i → ¬ S i) : at_Row h1 b pv wv iv s a := by
  obtain ⟨g0, g1, g2, g3, g4, g5, g6, g7⟩ := h0
  exact ⟨ab_fr_at hf g0 (hn _ (by show _ ∧ _; omega)), ab_fr_at hf g1 (hn _ (by show _ ∧ _; omega)), ab_fr_at hf g2 (hn _ (by show _ ∧ _; omega)), ab_fr_at hf g3 (hn _ (by show _ ∧ _; omega)), ab_fr_at hf g4 (hn _ (by show _ ∧ _; omega)), ab_fr_at hf g5 (hn _ (by show _ ∧ _; omega)), ab_fr_at hf g6 (hn _ (by show _ ∧ _; omega)), ab_fr_at hf g7 (hn _ (by show _ ∧ _; omega))⟩
def at_Ticker (h : List ab_E) (b : Nat) (pv wv : Value) (s : Nat → Int32) (a : Nat → Nat → Int32) : Prop :=
  h[b]? = some (.inr (9, [.ref (b + 1), pv, wv]))
def in_Ticker (b : Nat) : Nat → Prop := fun i => b ≤ i ∧ i ≤ b + 0
theorem fr_Ticker {S : Nat → Prop} {h h1 : List ab_E} {b : Nat}  {pv wv : Value} {s : Nat → Int32} {a : Nat → Nat → Int32} (hf : ab_fr S h h1) (h0 : at_Ticker h b pv wv s a) (hn : ∀ i, in_Ticker b i → ¬ S i) : at_Ticker h1 b pv wv s a := by
  exact ab_fr_at hf h0 (hn _ (by show _ ∧ _; omega))
def at_Body (h : List ab_E) (b : Nat) (lx : Nat) (pv : Value) (s : Nat → Int32) (a : Nat → Nat → Int32) : Prop :=
  h[b]? = some (.inr (6, [.ref lx, pv, .int (s 2), .int (s 3), .ref (b + 1), .int (s 5), .int (s 6)])) ∧ h[b + 1]? = some (.inl (.int, 21, .inl (a 4)))
def in_Body (b : Nat) : Nat → Prop := fun i => b ≤ i ∧ i ≤ b + 1
theorem fr_Body {S : Nat → Prop} {h h1 : List ab_E} {b : Nat}  {lx : Nat} {pv : Value} {s : Nat → Int32} {a : Nat → Nat → Int32} (hf : ab_fr S h h1) (h0 : at_Body h b lx pv s a) (hn : ∀ i, in_Body b i → ¬ S i) : at_Body h1 b lx pv s a := by
  obtain ⟨g0, g1⟩ := h0
  exact ⟨ab_fr_at hf g0 (hn _ (by show _ ∧ _; omega)), ab_fr_at hf g1 (hn _ (by show _ ∧ _; omega))⟩
def at_Reader (h : List ab_E) (b : Nat) (lx : Nat) (pv : Value) (s : Nat → Int32) (a : Nat → Nat → Int32) : Prop :=
  h[b]? = some (.inr (5, [.ref lx, .ref (b + 1), pv]))
def in_Reader (b : Nat) : Nat → Prop := fun i => b ≤ i ∧ i ≤ b + 0
theorem fr_Reader {S : Nat → Prop} {h h1 : List ab_E} {b : Nat}  {lx : Nat} {pv : Value} {s : Nat → Int32} {a : Nat → Nat → Int32} (hf : ab_fr S h h1) (h0 : at_Reader h b lx pv s a) (hn : ∀ i, in_Reader b i → ¬ S i) : at_Reader h1 b lx pv s a := by
  exact ab_fr_at hf h0 (hn _ (by show _ ∧ _; omega))
def at_CSh (h : List ab_E) (b : Nat) (s : Nat → Int32) (a : Nat → Nat → Int32) : Prop :=
  h[b]? = some (.inr (3, [.ref (b + 1), .ref (b + 18), .ref (b + 67), .int (s 3)])) ∧ h[b + 67]? = some (.inl (.int, 17, .inl (a 2)))
def in_CSh (b : Nat) : Nat → Prop := fun i => i = b ∨ i = b + 67
theorem fr_CSh {S : Nat → Prop} {h h1 : List ab_E} {b : Nat}  {s : Nat → Int32} {a : Nat → Nat → Int32} (hf : ab_fr S h h1) (h0 : at_CSh h b  s a) (hn : ∀ i, in_CSh b i → ¬ S i) : at_CSh h1 b  s a := by
  obtain ⟨g0, g1⟩ := h0
  exact ⟨ab_fr_at hf g0 (hn _ (by show _ ∨ _; omega)), ab_fr_at hf g1 (hn _ (by show _ ∨ _; omega))⟩
def at_ESh (h : List ab_E) (b : Nat) (s : Nat → Int32) (a : Nat → Nat → Int32) : Prop :=
  h[b]? = some (.inr (3, [.ref (b + 1), .ref (b + 10), .ref (b + 43), .int (s 3)])) ∧ h[b + 43]? = some (.inl (.int, 9, .inl (a 2)))
def in_ESh (b : Nat) : Nat → Prop := fun i => i = b ∨ i = b + 43
theorem fr_ESh {S : Nat → Prop} {h h1 : List ab_E} {b : Nat}  {s : Nat → Int32} {a : Nat → Nat → Int32} (hf : ab_fr S h h1) (h0 : at_ESh h b  s a) (hn : ∀ i, in_ESh b i → ¬ S i) : at_ESh h1 b  s a := by
  obtain ⟨g0, g1⟩ := h0
  exact ⟨ab_fr_at hf g0 (hn _ (by show _ ∨ _; omega)), ab_fr_at hf g1 (hn _ (by show _ ∨ _; omega))⟩
set_option maxRecDepth 20000 in
set_option maxHeartbeats 2000000 in
theorem c_Store_init {h : List ab_E}  {b : Nat}   (ho : h[b]? = some (.inr (11, [.null, .int 0, .int 0, .int 0, .int 0, .int 0]))) (hlen : h.length = b + 1)  : ab_M y_Store_init { frames := 1, cells := 1, slots := 60000, locals := 20 } [.ref b] h (ab_A none (fun h1 => at_Store h1 b (fun _ => 0) (fun _ _ => 0) ∧ h1.length = b + 2 ∧ ab_fr (in_up b) h h1)) := by
  refine ab_of2 (lv := [some (.ref b)]) 0 rfl rfl (Nat.le_of_ble_eq_true rfl) ?_
  refine ab_aload_n d_Store_init_0 rfl rfl rfl ?_
  refine ab_objInit d_Store_init_1 (k2 184 rfl rfl) (k1 37 rfl rfl) (k1 38 rfl rfl) (by decide) (by decide) ?_
  refine ab_aload_n d_Store_init_4 rfl rfl rfl ?_
  refine ab_ldc d_Store_init_5 (k2 185 rfl rfl) ?_
  refine ab_newaL (N := 60000) hlen d_Store_init_7 rfl (k1 142 rfl rfl) tB (Or.inr (Or.inl rfl)) (by decide) (by decide) (by decide) (by decide) (by decide) (fun h1 e2 e3 e4 => ?_)
  have c5 : h1[b + 1]? = some (.inl (.byte, 60000, .inl (fun _ => 0))) := e3
  have c6 : h1[b]? = some (.inr (11, [.null, .int 0, .int 0, .int 0, .int 0, .int 0])) := (e4 _ (by omega)).trans ho
  have fr7 : ab_fr (in_up b) h h1 := ab_fr_new (ab_fr_rf _ _) e4 e2 hlen
  have l8 : h1.length = b + 2 := e2
  clear e2 e3 e4
  refine ab_putF (f := 0) d_Store_init_9 c6 rfl (by decide) (k2 186 rfl rfl) rfl rfl rfl rfl (fun _ => rfl) (fun _ => rfl) (Nat.le_of_ble_eq_true rfl) ?_
  show ab_V _ _ _ _ _ _ _ 12 [some (.ref b)] [] (h1.set b (.inr (11, [.ref (b + 1), .int 0, .int 0, .int 0, .int 0, .int 0])))
  refine ab_gen (fun h9 e10 => ?_)
  have c11 : h9[b]? = some (.inr (11, [.ref (b + 1), .int 0, .int 0, .int 0, .int 0, .int 0])) := ab_self e10 c6
  have c12 : h9[b+1]? = some (.inl (.byte, 60000, .inl (fun _ => 0))) := ab_other e10 (by omega) c5
  have l13 : h9.length = b + 2 := by rw [e10]; exact List.length_set.trans l8
  have fr14 : ab_fr (in_up b) h h9 := ab_fr_set fr7 e10 (by first | (show _ ∧ _; omega) | (show _ ∨ _; omega) | (show _ = _; omega) | (show _ ≤ _; omega))
  clear c6 c5 l8 fr7 e10
  try clear h1
  exact ab_vret d_Store_init_12 rfl (by decide) (by decide) (by exact ⟨rfl, ⟨c11, c12⟩, l13, fr14⟩)
set_option maxRecDepth 20000 in
set_option maxHeartbeats 2000000 in
theorem c_Row_init {h : List ab_E}  {b : Nat}   (ho : h[b]? = some (.inr (8, [.null, .int 0, .null, .null, .null, .null, .int 0, .null, .null, .null, .null, .null, .int 0, .int 0, .int 0, .int 0, .int 0, .int 0, .int 0]))) (hlen : h.length = b + 1)  : ab_M y_Row_init { frames := 1, cells := 7, slots := 977, locals := 20 } [.ref b] h (ab_A none (fun h1 => at_Row h1 b .null .null .null (fun _ => 0) (fun _ _ => 0) ∧ h1.length = b + 8 ∧ ab_fr (in_up b) h h1)) := by
  refine ab_of2 (lv := [some (.ref b)]) 0 rfl rfl (Nat.le_of_ble_eq_true rfl) ?_
  refine ab_aload_n d_Row_init_0 rfl rfl rfl ?_
  refine ab_objInit d_Row_init_1 (k2 59 rfl rfl) (k1 37 rfl rfl) (k1 38 rfl rfl) (by decide) (by decide) ?_
  refine ab_aload_n d_Row_init_4 rfl rfl rfl ?_
  refine ab_sipush (v := 704) d_Row_init_5 (by decide) ?_
  refine ab_newaL (N := 704) hlen d_Row_init_8 rfl (k1 143 rfl rfl) tI (Or.inl rfl) (by decide) (by decide) (by decide) (by decide) (by decide) (fun h1 e2 e3 e4 => ?_)
  have c5 : h1[b + 1]? = some (.inl (.int, 704, .inl (fun _ => 0))) := e3
  have c6 : h1[b]? = some (.inr (8, [.null, .int 0, .null, .null, .null, .null, .int 0, .null, .null, .null, .null, .null, .int 0, .int 0, .int 0, .int 0, .int 0, .int 0, .int 0])) := (e4 _ (by omega)).trans ho
  have fr7 : ab_fr (in_up b) h h1 := ab_fr_new (ab_fr_rf _ _) e4 e2 hlen
  have l8 : h1.length = b + 2 := e2
  clear e2 e3 e4
  refine ab_put (f := 0) d_Row_init_10 c6 rfl (by decide) (k2 60 rfl rfl) rfl rfl (fun _ => rfl) (fun _ => rfl) (Nat.le_of_ble_eq_true rfl) ?_
  show ab_V _ _ _ _ _ _ _ 13 [some (.ref b)] [] (h1.set b (.inr (8, [.ref (b + 1), .int 0, .null, .null, .null, .null, .int 0, .null, .null, .null, .null, .null, .int 0, .int 0, .int 0, .int 0, .int 0, .int 0, .int 0])))
  refine ab_gen (fun h9 e10 => ?_)
  have c11 : h9[b]? = some (.inr (8, [.ref (b + 1), .int 0, .null, .null, .null, .null, .int 0, .null, .null, .null, .null, .null, .int 0, .int 0, .int 0, .int 0, .int 0, .int 0, .int 0])) := ab_self e10 c6
  have c12 : h9[b+1]? = some (.inl (.int, 704, .inl (fun _ => 0))) := ab_other e10 (by omega) c5
  have l13 : h9.length = b + 2 := by rw [e10]; exact List.length_set.trans l8
  have fr14 : ab_fr (in_up b) h h9 := ab_fr_set fr7 e10 (by first | (show _ ∧ _; omega) | (show _ ∨ _; omega) | (show _ = _; omega) | (show _ ≤ _; omega))
  clear c6 c5 l8 fr7 e10
  try clear h1
  refine ab_aload_n d_Row_init_13 rfl rfl rfl ?_
  refine ab_sipush (v := 160) d_Row_init_14 (by decide) ?_
  refine ab_newaL (N := 160) l13 d_Row_init_17 rfl (k1 143 rfl rfl) tI (Or.inl rfl) (by decide) (by decide) (by decide) (by decide) (by decide) (fun h15 e16 e17 e18 => ?_)
  have c19 : h15[b + 2]? = some (.inl (.int, 160, .inl (fun _ => 0))) := e17
  have c20 : h15[b]? = some (.inr (8, [.ref (b + 1), .int 0, .null, .null, .null, .null, .int 0, .null, .null, .null, .null, .null, .int 0, .int 0, .int 0, .int 0, .int 0, .int 0, .int 0])) := (e18 _ (by omega)).trans c11
  have c21 : h15[b+1]? = some (.inl (.int, 704, .inl (fun _ => 0))) := (e18 _ (by omega)).trans c12
  have fr22 : ab_fr (in_up b) h h15 := ab_fr_new fr14 e18 e16 l13
  have l23 : h15.length = b + 3 := e16
  clear c11 c12 e16 e17 e18 l13 fr14
  try clear h9
  refine ab_putF (f := 5) d_Row_init_19 c20 rfl (by decide) (k2 67 rfl rfl) rfl rfl rfl rfl (fun _ => rfl) (fun _ => rfl) (Nat.le_of_ble_eq_true rfl) ?_
  show ab_V _ _ _ _ _ _ _ 22 [some (.ref b)] [] (h15.set b (.inr (8, [.ref (b + 1), .int 0, .null, .null, .null, .ref (b + 2), .int 0, .null, .null, .null, .null, .null, .int 0, .int 0, .int 0, .int 0, .int 0, .int 0, .int 0])))
  refine ab_gen (fun h24 e25 => ?_)
  have c26 : h24[b]? = some (.inr (8, [.ref (b + 1), .int 0, .null, .null, .null, .ref (b + 2), .int 0, .null, .null, .null, .null, .null, .int 0, .int 0, .int 0, .int 0, .int 0, .int 0, .int 0])) := ab_self e25 c20
  have c27 : h24[b+1]? = some (.inl (.int, 704, .inl (fun _ => 0))) := ab_other e25 (by omega) c21
  have c28 : h24[b+2]? = some (.inl (.int, 160, .inl (fun _ => 0))) := ab_other e25 (by omega) c19
  have l29 : h24.length = b + 3 := by rw [e25]; exact List.length_set.trans l23
  have fr30 : ab_fr (in_up b) h h24 := ab_fr_set fr22 e25 (by first | (show _ ∧ _; omega) | (show _ ∨ _; omega) | (show _ = _; omega) | (show _ ≤ _; omega))
  clear c20 c21 c19 l23 fr22 e25
  try clear h15
  refine ab_aload_n d_Row_init_22 rfl rfl rfl ?_
  refine ab_bipush (v := 12) d_Row_init_23 (by decide) ?_
  refine ab_newaL (N := 12) l29 d_Row_init_25 rfl (k1 143 rfl rfl) tI (Or.inl rfl) (by decide) (by decide) (by decide) (by decide) (by decide) (fun h31 e32 e33 e34 => ?_)
  have c35 : h31[b + 3]? = some (.inl (.int, 12, .inl (fun _ => 0))) := e33
  have c36 : h31[b]? = some (.inr (8, [.ref (b + 1), .int 0, .null, .null, .null, .ref (b + 2), .int 0, .null, .null, .null, .null, .null, .int 0, .int 0, .int 0, .int 0, .int 0, .int 0, .int 0])) := (e34 _ (by omega)).trans c26
  have c37 : h31[b+1]? = some (.inl (.int, 704, .inl (fun _ => 0))) := (e34 _ (by omega)).trans c27
  have c38 : h31[b+2]? = some (.inl (.int, 160, .inl (fun _ => 0))) := (e34 _ (by omega)).trans c28
  have fr39 : ab_fr (in_up b) h h31 := ab_fr_new fr30 e34 e32 l29
  have l40 : h31.length = b + 4 := e32
  clear c26 c27 c28 e32 e33 e34 l29 fr30
  try clear h24
  refine ab_putF (f := 7) d_Row_init_27 c36 rfl (by decide) (k2 69 rfl rfl) rfl rfl rfl rfl (fun _ => rfl) (fun _ => rfl) (Nat.le_of_ble_eq_true rfl) ?_
  show ab_V _ _ _ _ _ _ _ 30 [some (.ref b)] [] (h31.set b (.inr (8, [.ref (b + 1), .int 0, .null, .null, .null, .ref (b + 2), .int 0, .ref (b + 3), .null, .null, .null, .null, .int 0, .int 0, .int 0, .int 0, .int 0, .int 0, .int 0])))
  refine ab_gen (fun h41 e42 => ?_)
  have c43 : h41[b]? = some (.inr (8, [.ref (b + 1), .int 0, .null, .null, .null, .ref (b + 2), .int 0, .ref (b + 3), .null, .null, .null, .null, .int 0, .int 0, .int 0, .int 0, .int 0, .int 0, .int 0])) := ab_self e42 c36
  have c44 : h41[b+1]? = some (.inl (.int, 704, .inl (fun _ => 0))) := ab_other e42 (by omega) c37
  have c45 : h41[b+2]? = some (.inl (.int, 160, .inl (fun _ => 0))) := ab_other e42 (by omega) c38
  have c46 : h41[b+3]? = some (.inl (.int, 12, .inl (fun _ => 0))) := ab_other e42 (by omega) c35
  have l47 : h41.length = b + 4 := by rw [e42]; exact List.length_set.trans l40
  have fr48 : ab_fr (in_up b) h h41 := ab_fr_set fr39 e42 (by first | (show _ ∧ _; omega) | (show _ ∨ _; omega) | (show _ = _; omega) | (show _ ≤ _; omega))
  clear c36 c37 c38 c35 l40 fr39 e42
  try clear h31
  refine ab_aload_n d_Row_init_30 rfl rfl rfl ?_
  refine ab_bipush (v := 21) d_Row_init_31 (by decide) ?_
  refine ab_newaL (N := 21) l47 d_Row_init_33 rfl (k1 143 rfl rfl) tI (Or.inl rfl) (by decide) (by decide) (by decide) (by decide) (by decide) (fun h49 e50 e51 e52 => ?_)
  have c53 : h49[b + 4]? = some (.inl (.int, 21, .inl (fun _ => 0))) := e51
  have c54 : h49[b]? = some (.inr (8, [.ref (b + 1), .int 0, .null, .null, .null, .ref (b + 2), .int 0, .ref (b + 3), .null, .null, .null, .null, .int 0, .int 0, .int 0, .int 0, .int 0, .int 0, .int 0])) := (e52 _ (by omega)).trans c43
  have c55 : h49[b+1]? = some (.inl (.int, 704, .inl (fun _ => 0))) := (e52 _ (by omega)).trans c44
  have c56 : h49[b+2]? = some (.inl (.int, 160, .inl (fun _ => 0))) := (e52 _ (by omega)).trans c45
  have c57 : h49[b+3]? = some (.inl (.int, 12, .inl (fun _ => 0))) := (e52 _ (by omega)).trans c46
  have fr58 : ab_fr (in_up b) h h49 := ab_fr_new fr48 e52 e50 l47
  have l59 : h49.length = b + 5 := e50
  clear c43 c44 c45 c46 e50 e51 e52 l47 fr48
  try clear h41
  refine ab_putF (f := 8) d_Row_init_35 c54 rfl (by decide) (k2 70 rfl rfl) rfl rfl rfl rfl (fun _ => rfl) (fun _ => rfl) (Nat.le_of_ble_eq_true rfl) ?_
  show ab_V _ _ _ _ _ _ _ 38 [some (.ref b)] [] (h49.set b (.inr (8, [.ref (b + 1), .int 0, .null, .null, .null, .ref (b + 2), .int 0, .ref (b + 3), .ref (b + 4), .null, .null, .null, .int 0, .int 0, .int 0, .int 0, .int 0, .int 0, .int 0])))
  refine ab_gen (fun h60 e61 => ?_)
  have c62 : h60[b]? = some (.inr (8, [.ref (b + 1), .int 0, .null, .null, .null, .ref (b + 2), .int 0, .ref (b + 3), .ref (b + 4), .null, .null, .null, .int 0, .int 0, .int 0, .int 0, .int 0, .int 0, .int 0])) := ab_self e61 c54
  have c63 : h60[b+1]? = some (.inl (.int, 704, .inl (fun _ => 0))) := ab_other e61 (by omega) c55
  have c64 : h60[b+2]? = some (.inl (.int, 160, .inl (fun _ => 0))) := ab_other e61 (by omega) c56
  have c65 : h60[b+3]? = some (.inl (.int, 12, .inl (fun _ => 0))) := ab_other e61 (by omega) c57
  have c66 : h60[b+4]? = some (.inl (.int, 21, .inl (fun _ => 0))) := ab_other e61 (by omega) c53
  have l67 : h60.length = b + 5 := by rw [e61]; exact List.length_set.trans l59
  have fr68 : ab_fr (in_up b) h h60 := ab_fr_set fr58 e61 (by first | (show _ ∧ _; omega) | (show _ ∨ _; omega) | (show _ = _; omega) | (show _ ≤ _; omega))
  clear c54 c55 c56 c57 c53 l59 fr58 e61
  try clear h49
  refine ab_aload_n d_Row_init_38 rfl rfl rfl ?_
  refine ab_bipush (v := 21) d_Row_init_39 (by decide) ?_
  refine ab_newaL (N := 21) l67 d_Row_init_41 rfl (k1 143 rfl rfl) tI (Or.inl rfl) (by decide) (by decide) (by decide) (by decide) (by decide) (fun h69 e70 e71 e72 => ?_)
  have c73 : h69[b + 5]? = some (.inl (.int, 21, .inl (fun _ => 0))) := e71
  have c74 : h69[b]? = some (.inr (8, [.ref (b + 1), .int 0, .null, .null, .null, .ref (b + 2), .int 0, .ref (b + 3), .ref (b + 4), .null, .null, .null, .int 0, .int 0, .int 0, .int 0, .int 0, .int 0, .int 0])) := (e72 _ (by omega)).trans c62
  have c75 : h69[b+1]? = some (.inl (.int, 704, .inl (fun _ => 0))) := (e72 _ (by omega)).trans c63
  have c76 : h69[b+2]? = some (.inl (.int, 160, .inl (fun _ => 0))) := (e72 _ (by omega)).trans c64
  have c77 : h69[b+3]? = some (.inl (.int, 12, .inl (fun _ => 0))) := (e72 _ (by omega)).trans c65
  have c78 : h69[b+4]? = some (.inl (.int, 21, .inl (fun _ => 0))) := (e72 _ (by omega)).trans c66
  have fr79 : ab_fr (in_up b) h h69 := ab_fr_new fr68 e72 e70 l67
  have l80 : h69.length = b + 6 := e70
  clear c62 c63 c64 c65 c66 e70 e71 e72 l67 fr68
  try clear h60
  refine ab_putF (f := 9) d_Row_init_43 c74 rfl (by decide) (k2 71 rfl rfl) rfl rfl rfl rfl (fun _ => rfl) (fun _ => rfl) (Nat.le_of_ble_eq_true rfl) ?_
  show ab_V _ _ _ _ _ _ _ 46 [some (.ref b)] [] (h69.set b (.inr (8, [.ref (b + 1), .int 0, .null, .null, .null, .ref (b + 2), .int 0, .ref (b + 3), .ref (b + 4), .ref (b + 5), .null, .null, .int 0, .int 0, .int 0, .int 0, .int 0, .int 0, .int 0])))
  refine ab_gen (fun h81 e82 => ?_)
  have c83 : h81[b]? = some (.inr (8, [.ref (b + 1), .int 0, .null, .null, .null, .ref (b + 2), .int 0, .ref (b + 3), .ref (b + 4), .ref (b + 5), .null, .null, .int 0, .int 0, .int 0, .int 0, .int 0, .int 0, .int 0])) := ab_self e82 c74
  have c84 : h81[b+1]? = some (.inl (.int, 704, .inl (fun _ => 0))) := ab_other e82 (by omega) c75
  have c85 : h81[b+2]? = some (.inl (.int, 160, .inl (fun _ => 0))) := ab_other e82 (by omega) c76
  have c86 : h81[b+3]? = some (.inl (.int, 12, .inl (fun _ => 0))) := ab_other e82 (by omega) c77
  have c87 : h81[b+4]? = some (.inl (.int, 21, .inl (fun _ => 0))) := ab_other e82 (by omega) c78
  have c88 : h81[b+5]? = some (.inl (.int, 21, .inl (fun _ => 0))) := ab_other e82 (by omega) c73
  have l89 : h81.length = b + 6 := by rw [e82]; exact List.length_set.trans l80
  have fr90 : ab_fr (in_up b) h h81 := ab_fr_set fr79 e82 (by first | (show _ ∧ _; omega) | (show _ ∨ _; omega) | (show _ = _; omega) | (show _ ≤ _; omega))
  clear c74 c75 c76 c77 c78 c73 l80 fr79 e82
  try clear h69
  refine ab_aload_n d_Row_init_46 rfl rfl rfl ?_
  refine ab_bipush (v := 11) d_Row_init_47 (by decide) ?_
  refine ab_newaL (N := 11) l89 d_Row_init_49 rfl (k1 143 rfl rfl) tI (Or.inl rfl) (by decide) (by decide) (by decide) (by decide) (by decide) (fun h91 e92 e93 e94 => ?_)
  have c95 : h91[b + 6]? = some (.inl (.int, 11, .inl (fun _ => 0))) := e93
  have c96 : h91[b]? = some (.inr (8, [.ref (b + 1), .int 0, .null, .null, .null, .ref (b + 2), .int 0, .ref (b + 3), .ref (b + 4), .ref (b + 5), .null, .null, .int 0, .int 0, .int 0, .int 0, .int 0, .int 0, .int 0])) := (e94 _ (by omega)).trans c83
  have c97 : h91[b+1]? = some (.inl (.int, 704, .inl (fun _ => 0))) := (e94 _ (by omega)).trans c84
  have c98 : h91[b+2]? = some (.inl (.int, 160, .inl (fun _ => 0))) := (e94 _ (by omega)).trans c85
  have c99 : h91[b+3]? = some (.inl (.int, 12, .inl (fun _ => 0))) := (e94 _ (by omega)).trans c86
  have c100 : h91[b+4]? = some (.inl (.int, 21, .inl (fun _ => 0))) := (e94 _ (by omega)).trans c87
  have c101 : h91[b+5]? = some (.inl (.int, 21, .inl (fun _ => 0))) := (e94 _ (by omega)).trans c88
  have fr102 : ab_fr (in_up b) h h91 := ab_fr_new fr90 e94 e92 l89
  have l103 : h91.length = b + 7 := e92
  clear c83 c84 c85 c86 c87 c88 e92 e93 e94 l89 fr90
  try clear h81
  refine ab_putF (f := 10) d_Row_init_51 c96 rfl (by decide) (k2 72 rfl rfl) rfl rfl rfl rfl (fun _ => rfl) (fun _ => rfl) (Nat.le_of_ble_eq_true rfl) ?_
  show ab_V _ _ _ _ _ _ _ 54 [some (.ref b)] [] (h91.set b (.inr (8, [.ref (b + 1), .int 0, .null, .null, .null, .ref (b + 2), .int 0, .ref (b + 3), .ref (b + 4), .ref (b + 5), .ref (b + 6), .null, .int 0, .int 0, .int 0, .int 0, .int 0, .int 0, .int 0])))
  refine ab_gen (fun h104 e105 => ?_)
  have c106 : h104[b]? = some (.inr (8, [.ref (b + 1), .int 0, .null, .null, .null, .ref (b + 2), .int 0, .ref (b + 3), .ref (b + 4), .ref (b + 5), .ref (b + 6), .null, .int 0, .int 0, .int 0, .int 0, .int 0, .int 0, .int 0])) := ab_self e105 c96
  have c107 : h104[b+1]? = some (.inl (.int, 704, .inl (fun _ => 0))) := ab_other e105 (by omega) c97
  have c108 : h104[b+2]? = some (.inl (.int, 160, .inl (fun _ => 0))) := ab_other e105 (by omega) c98
  have c109 : h104[b+3]? = some (.inl (.int, 12, .inl (fun _ => 0))) := ab_other e105 (by omega) c99
  have c110 : h104[b+4]? = some (.inl (.int, 21, .inl (fun _ => 0))) := ab_other e105 (by omega) c100
  have c111 : h104[b+5]? = some (.inl (.int, 21, .inl (fun _ => 0))) := ab_other e105 (by omega) c101
  have c112 : h104[b+6]? = some (.inl (.int, 11, .inl (fun _ => 0))) := ab_other e105 (by omega) c95
  have l113 : h104.length = b + 7 := by rw [e105]; exact List.length_set.trans l103
  have fr114 : ab_fr (in_up b) h h104 := ab_fr_set fr102 e105 (by first | (show _ ∧ _; omega) | (show _ ∨ _; omega) | (show _ = _; omega) | (show _ ≤ _; omega))
  clear c96 c97 c98 c99 c100 c101 c95 l103 fr102 e105
  try clear h91
  refine ab_aload_n d_Row_init_54 rfl rfl rfl ?_
  refine ab_bipush (v := 48) d_Row_init_55 (by decide) ?_
  refine ab_newaL (N := 48) l113 d_Row_init_57 rfl (k1 143 rfl rfl) tI (Or.inl rfl) (by decide) (by decide) (by decide) (by decide) (by decide) (fun h115 e116 e117 e118 => ?_)
  have c119 : h115[b + 7]? = some (.inl (.int, 48, .inl (fun _ => 0))) := e117
  have c120 : h115[b]? = some (.inr (8, [.ref (b + 1), .int 0, .null, .null, .null, .ref (b + 2), .int 0, .ref (b + 3), .ref (b + 4), .ref (b + 5), .ref (b + 6), .null, .int 0, .int 0, .int 0, .int 0, .int 0, .int 0, .int 0])) := (e118 _ (by omega)).trans c106
  have c121 : h115[b+1]? = some (.inl (.int, 704, .inl (fun _ => 0))) := (e118 _ (by omega)).trans c107
  have c122 : h115[b+2]? = some (.inl (.int, 160, .inl (fun _ => 0))) := (e118 _ (by omega)).trans c108
  have c123 : h115[b+3]? = some (.inl (.int, 12, .inl (fun _ => 0))) := (e118 _ (by omega)).trans c109
  have c124 : h115[b+4]? = some (.inl (.int, 21, .inl (fun _ => 0))) := (e118 _ (by omega)).trans c110
  have c125 : h115[b+5]? = some (.inl (.int, 21, .inl (fun _ => 0))) := (e118 _ (by omega)).trans c111
  have c126 : h115[b+6]? = some (.inl (.int, 11, .inl (fun _ => 0))) := (e118 _ (by omega)).trans c112
  have fr127 : ab_fr (in_up b) h h115 := ab_fr_new fr114 e118 e116 l113
  have l128 : h115.length = b + 8 := e116
  clear c106 c107 c108 c109 c110 c111 c112 e116 e117 e118 l113 fr114
  try clear h104
  refine ab_putF (f := 11) d_Row_init_59 c120 rfl (by decide) (k2 73 rfl rfl) rfl rfl rfl rfl (fun _ => rfl) (fun _ => rfl) (Nat.le_of_ble_eq_true rfl) ?_
  show ab_V _ _ _ _ _ _ _ 62 [some (.ref b)] [] (h115.set b (.inr (8, [.ref (b + 1), .int 0, .null, .null, .null, .ref (b + 2), .int 0, .ref (b + 3), .ref (b + 4), .ref (b + 5), .ref (b + 6), .ref (b + 7), .int 0, .int 0, .int 0, .int 0, .int 0, .int 0, .int 0])))
  refine ab_gen (fun h129 e130 => ?_)
  have c131 : h129[b]? = some (.inr (8, [.ref (b + 1), .int 0, .null, .null, .null, .ref (b + 2), .int 0, .ref (b + 3), .ref (b + 4), .ref (b + 5), .ref (b + 6), .ref (b + 7), .int 0, .int 0, .int 0, .int 0, .int 0, .int 0, .int 0])) := ab_self e130 c120
  have c132 : h129[b+1]? = some (.inl (.int, 704, .inl (fun _ => 0))) := ab_other e130 (by omega) c121
  have c133 : h129[b+2]? = some (.inl (.int, 160, .inl (fun _ => 0))) := ab_other e130 (by omega) c122
  have c134 : h129[b+3]? = some (.inl (.int, 12, .inl (fun _ => 0))) := ab_other e130 (by omega) c123
  have c135 : h129[b+4]? = some (.inl (.int, 21, .inl (fun _ => 0))) := ab_other e130 (by omega) c124
  have c136 : h129[b+5]? = some (.inl (.int, 21, .inl (fun _ => 0))) := ab_other e130 (by omega) c125
  have c137 : h129[b+6]? = some (.inl (.int, 11, .inl (fun _ => 0))) := ab_other e130 (by omega) c126
  have c138 : h129[b+7]? = some (.inl (.int, 48, .inl (fun _ => 0))) := ab_other e130 (by omega) c119
  have l139 : h129.length = b + 8 := by rw [e130]; exact List.length_set.trans l128
  have fr140 : ab_fr (in_up b) h h129 := ab_fr_set fr127 e130 (by first | (show _ ∧ _; omega) | (show _ ∨ _; omega) | (show _ = _; omega) | (show _ ≤ _; omega))
  clear c120 c121 c122 c123 c124 c125 c126 c119 l128 fr127 e130
  try clear h115
  exact ab_vret d_Row_init_62 rfl (by decide) (by decide) (by exact ⟨rfl, ⟨c131, c132, c133, c134, c135, c136, c137, c138⟩, l139, fr140⟩)
set_option maxRecDepth 20000 in
set_option maxHeartbeats 2000000 in
theorem c_Ticker_init {h : List ab_E}  {b : Nat}   (ho : h[b]? = some (.inr (9, [.null, .null, .null]))) (hlen : h.length = b + 1)  : ab_M y_Ticker_init { frames := 2, cells := 8, slots := 996, locals := 60 } [.ref b] h (ab_A none (fun h1 => at_Ticker h1 b .null .null (fun _ => 0) (fun _ _ => 0) ∧ at_Row h1 (b + 1) .null .null .null (fun _ => 0) (fun _ _ => 0) ∧ h1.length = b + 9 ∧ ab_fr (in_up b) h h1)) := by
  refine ab_of2 (lv := [some (.ref b)]) 0 rfl rfl (Nat.le_of_ble_eq_true rfl) ?_
  refine ab_aload_n d_Ticker_init_0 rfl rfl rfl ?_
  refine ab_objInit d_Ticker_init_1 (k2 53 rfl rfl) (k1 37 rfl rfl) (k1 38 rfl rfl) (by decide) (by decide) ?_
  refine ab_aload_n d_Ticker_init_4 rfl rfl rfl ?_
  refine ab_newL (ci := 8) (fs := [.null, .int 0, .null, .null, .null, .null, .int 0, .null, .null, .null, .null, .null, .int 0, .int 0, .int 0, .int 0, .int 0, .int 0, .int 0]) hlen d_Ticker_init_5 rfl (k2 54 rfl rfl) (k2 55 rfl rfl) (k1 13 rfl rfl) rfl rfl (by decide) (by decide) (fun h1 e2 e3 e4 => ?_)
  have c5 : h1[b + 1]? = some (.inr (8, [.null, .int 0, .null, .null, .null, .null, .int 0, .null, .null, .null, .null, .null, .int 0, .int 0, .int 0, .int 0, .int 0, .int 0, .int 0])) := e3
  have c6 : h1[b]? = some (.inr (9, [.null, .null, .null])) := (e4 _ (by omega)).trans ho
  have fr7 : ab_fr (in_up b) h h1 := ab_fr_new (ab_fr_rf _ _) e4 e2 hlen
  have l8 : h1.length = b + 2 := e2
  clear e2 e3 e4
  refine ab_dup d_Ticker_init_8 rfl ?_
  refine ab_callI_v (As := []) (rest := [.ref (b + 1), .ref b]) d_Ticker_init_9 (c_Row_init c5 l8) (ab_mkC s_Row_init (Nat.le_of_ble_eq_true rfl) (Nat.le_of_ble_eq_true rfl) (by decide) (by decide)) (k2 56 rfl rfl) i_Row_init rfl (k2 58 rfl rfl) rfl (Nat.le_of_ble_eq_true rfl) (fun h9 q10 => ?_)
  obtain ⟨kf11, l12, f13⟩ := q10
  replace l12 : h9.length = b + 9 := l12
  have c14 : h9[b]? = some (.inr (9, [.null, .null, .null])) := ab_fr_at f13 c6 (by simp only [in_up] <;> omega)
  have fr15 : ab_fr (in_up b) h h9 := ab_fr_tr fr7 (ab_fr_mono f13 (by intro i hi; simp only [in_up, in_up] at * <;> omega))
  clear c6 c5 l8 f13 fr7
  try clear h1
  replace kf11 : at_Row h9 (b + 1) .null .null .null (fun _ => 0) (fun _ _ => 0) := kf11
  refine ab_putF (f := 0) d_Ticker_init_12 c14 rfl (by decide) (k2 120 rfl rfl) rfl rfl rfl rfl (fun _ => rfl) (fun _ => rfl) (Nat.le_of_ble_eq_true rfl) ?_
  show ab_V _ _ _ _ _ _ _ 15 [some (.ref b)] [] (h9.set b (.inr (9, [.ref (b + 1), .null, .null])))
  refine ab_gen (fun h16 e17 => ?_)
  have c18 : h16[b]? = some (.inr (9, [.ref (b + 1), .null, .null])) := ab_self e17 c14
  have l19 : h16.length = b + 9 := by rw [e17]; exact List.length_set.trans l12
  have f20 : ab_fr (fun i => i = b) h9 h16 := ab_fr_set (ab_fr_rf _ _) e17 rfl
  have kf21 : at_Row h16 (b + 1) .null .null .null (fun _ => 0) (fun _ _ => 0) := fr_Row f20 kf11 (by intro i hi hs; simp only [in_Row] at hi hs <;> omega)
  have fr22 : ab_fr (in_up b) h h16 := ab_fr_set fr15 e17 (by first | (show _ ∧ _; omega) | (show _ ∨ _; omega) | (show _ = _; omega) | (show _ ≤ _; omega))
  clear c14 kf11 l12 fr15 e17 f20
  try clear h9
  exact ab_vret d_Ticker_init_15 rfl (by decide) (by decide) (by exact ⟨rfl, c18, kf21, l19, fr22⟩)
set_option maxRecDepth 20000 in
set_option maxHeartbeats 2000000 in
theorem c_Body_init {h : List ab_E}  {b : Nat} {lx : Nat}  (ho : h[b]? = some (.inr (6, [.null, .null, .int 0, .int 0, .null, .int 0, .int 0]))) (hlen : h.length = b + 1)  : ab_M y_Body_init { frames := 1, cells := 1, slots := 21, locals := 20 } [.ref b, .ref lx] h (ab_A none (fun h1 => at_Body h1 b lx .null (fun _ => 0) (fun _ _ => 0) ∧ h1.length = b + 2 ∧ ab_fr (in_up b) h h1)) := by
  refine ab_of2 (lv := [some (.ref b), some (.ref lx)]) 0 rfl rfl (Nat.le_of_ble_eq_true rfl) ?_
  refine ab_aload_n d_Body_init_0 rfl rfl rfl ?_
  refine ab_objInit d_Body_init_1 (k1 156 rfl rfl) (k1 37 rfl rfl) (k1 38 rfl rfl) (by decide) (by decide) ?_
  refine ab_aload_n d_Body_init_4 rfl rfl rfl ?_
  refine ab_aload_n d_Body_init_5 rfl rfl rfl ?_
  refine ab_putF (f := 0) d_Body_init_6 ho rfl (by decide) (k1 157 rfl rfl) rfl rfl rfl rfl (fun _ => rfl) (fun _ => rfl) (Nat.le_of_ble_eq_true rfl) ?_
  show ab_V _ _ _ _ _ _ _ 9 [some (.ref b), some (.ref lx)] [] (h.set b (.inr (6, [.ref lx, .null, .int 0, .int 0, .null, .int 0, .int 0])))
  refine ab_gen (fun h1 e2 => ?_)
  have c3 : h1[b]? = some (.inr (6, [.ref lx, .null, .int 0, .int 0, .null, .int 0, .int 0])) := ab_self e2 ho
  have l4 : h1.length = b + 1 := by rw [e2]; exact List.length_set.trans hlen
  have fr5 : ab_fr (in_up b) h h1 := ab_fr_set (ab_fr_rf _ _) e2 (by first | (show _ ∧ _; omega) | (show _ ∨ _; omega) | (show _ = _; omega) | (show _ ≤ _; omega))
  clear e2
  refine ab_aload_n d_Body_init_9 rfl rfl rfl ?_
  refine ab_bipush (v := 21) d_Body_init_10 (by decide) ?_
  refine ab_newaL (N := 21) l4 d_Body_init_12 rfl (k1 143 rfl rfl) tI (Or.inl rfl) (by decide) (by decide) (by decide) (by decide) (by decide) (fun h6 e7 e8 e9 => ?_)
  have c10 : h6[b + 1]? = some (.inl (.int, 21, .inl (fun _ => 0))) := e8
  have c11 : h6[b]? = some (.inr (6, [.ref lx, .null, .int 0, .int 0, .null, .int 0, .int 0])) := (e9 _ (by omega)).trans c3
  have fr12 : ab_fr (in_up b) h h6 := ab_fr_new fr5 e9 e7 l4
  have l13 : h6.length = b + 2 := e7
  clear c3 e7 e8 e9 l4 fr5
  try clear h1
  refine ab_putF (f := 4) d_Body_init_14 c11 rfl (by decide) (k1 161 rfl rfl) rfl rfl rfl rfl (fun _ => rfl) (fun _ => rfl) (Nat.le_of_ble_eq_true rfl) ?_
  show ab_V _ _ _ _ _ _ _ 17 [some (.ref b), some (.ref lx)] [] (h6.set b (.inr (6, [.ref lx, .null, .int 0, .int 0, .ref (b + 1), .int 0, .int 0])))
  refine ab_gen (fun h14 e15 => ?_)
  have c16 : h14[b]? = some (.inr (6, [.ref lx, .null, .int 0, .int 0, .ref (b + 1), .int 0, .int 0])) := ab_self e15 c11
  have c17 : h14[b+1]? = some (.inl (.int, 21, .inl (fun _ => 0))) := ab_other e15 (by omega) c10
  have l18 : h14.length = b + 2 := by rw [e15]; exact List.length_set.trans l13
  have fr19 : ab_fr (in_up b) h h14 := ab_fr_set fr12 e15 (by first | (show _ ∧ _; omega) | (show _ ∨ _; omega) | (show _ = _; omega) | (show _ ≤ _; omega))
  clear c11 c10 l13 fr12 e15
  try clear h6
  exact ab_vret d_Body_init_17 rfl (by decide) (by decide) (by exact ⟨rfl, ⟨c16, c17⟩, l18, fr19⟩)
set_option maxRecDepth 20000 in
set_option maxHeartbeats 2000000 in
theorem c_Reader_init {h : List ab_E}  {b : Nat} {lx : Nat}  (ho : h[b]? = some (.inr (5, [.null, .null, .null]))) (hlen : h.length = b + 1)  : ab_M y_Reader_init { frames := 2, cells := 2, slots := 28, locals := 60 } [.ref b, .ref lx] h (ab_A none (fun h1 => at_Reader h1 b lx .null (fun _ => 0) (fun _ _ => 0) ∧ at_Body h1 (b + 1) lx .null (fun _ => 0) (fun _ _ => 0) ∧ h1.length = b + 3 ∧ ab_fr (in_up b) h h1)) := by
  refine ab_of2 (lv := [some (.ref b), some (.ref lx)]) 0 rfl rfl (Nat.le_of_ble_eq_true rfl) ?_
  refine ab_aload_n d_Reader_init_0 rfl rfl rfl ?_
  refine ab_objInit d_Reader_init_1 (k1 150 rfl rfl) (k1 37 rfl rfl) (k1 38 rfl rfl) (by decide) (by decide) ?_
  refine ab_aload_n d_Reader_init_4 rfl rfl rfl ?_
  refine ab_aload_n d_Reader_init_5 rfl rfl rfl ?_
  refine ab_putF (f := 0) d_Reader_init_6 ho rfl (by decide) (k1 179 rfl rfl) rfl rfl rfl rfl (fun _ => rfl) (fun _ => rfl) (Nat.le_of_ble_eq_true rfl) ?_
  show ab_V _ _ _ _ _ _ _ 9 [some (.ref b), some (.ref lx)] [] (h.set b (.inr (5, [.ref lx, .null, .null])))
  refine ab_gen (fun h1 e2 => ?_)
  have c3 : h1[b]? = some (.inr (5, [.ref lx, .null, .null])) := ab_self e2 ho
  have l4 : h1.length = b + 1 := by rw [e2]; exact List.length_set.trans hlen
  have fr5 : ab_fr (in_up b) h h1 := ab_fr_set (ab_fr_rf _ _) e2 (by first | (show _ ∧ _; omega) | (show _ ∨ _; omega) | (show _ = _; omega) | (show _ ≤ _; omega))
  clear e2
  refine ab_aload_n d_Reader_init_9 rfl rfl rfl ?_
  refine ab_newL (ci := 6) (fs := [.null, .null, .int 0, .int 0, .null, .int 0, .int 0]) l4 d_Reader_init_10 rfl (k1 151 rfl rfl) (k1 152 rfl rfl) (k1 8 rfl rfl) rfl rfl (by decide) (by decide) (fun h6 e7 e8 e9 => ?_)
  have c10 : h6[b + 1]? = some (.inr (6, [.null, .null, .int 0, .int 0, .null, .int 0, .int 0])) := e8
  have c11 : h6[b]? = some (.inr (5, [.ref lx, .null, .null])) := (e9 _ (by omega)).trans c3
  have fr12 : ab_fr (in_up b) h h6 := ab_fr_new fr5 e9 e7 l4
  have l13 : h6.length = b + 2 := e7
  clear c3 e7 e8 e9 l4 fr5
  try clear h1
  refine ab_dup d_Reader_init_13 rfl ?_
  refine ab_aload_n d_Reader_init_14 rfl rfl rfl ?_
  refine ab_callI_v (As := [.ref lx]) (rest := [.ref (b + 1), .ref b]) d_Reader_init_15 (c_Body_init c10 l13) (ab_mkC s_Body_init (Nat.le_of_ble_eq_true rfl) (Nat.le_of_ble_eq_true rfl) (by decide) (by decide)) (k1 153 rfl rfl) i_Body_init rfl (k1 155 rfl rfl) rfl (Nat.le_of_ble_eq_true rfl) (fun h14 q15 => ?_)
  obtain ⟨kf16, l17, f18⟩ := q15
  replace l17 : h14.length = b + 3 := l17
  have c19 : h14[b]? = some (.inr (5, [.ref lx, .null, .null])) := ab_fr_at f18 c11 (by simp only [in_up] <;> omega)
  have fr20 : ab_fr (in_up b) h h14 := ab_fr_tr fr12 (ab_fr_mono f18 (by intro i hi; simp only [in_up, in_up] at * <;> omega))
  clear c11 c10 l13 f18 fr12
  try clear h6
  replace kf16 : at_Body h14 (b + 1) lx .null (fun _ => 0) (fun _ _ => 0) := kf16
  refine ab_putF (f := 1) d_Reader_init_18 c19 rfl (by decide) (k1 180 rfl rfl) rfl rfl rfl rfl (fun _ => rfl) (fun _ => rfl) (Nat.le_of_ble_eq_true rfl) ?_
  show ab_V _ _ _ _ _ _ _ 21 [some (.ref b), some (.ref lx)] [] (h14.set b (.inr (5, [.ref lx, .ref (b + 1), .null])))
  refine ab_gen (fun h21 e22 => ?_)
  have c23 : h21[b]? = some (.inr (5, [.ref lx, .ref (b + 1), .null])) := ab_self e22 c19
  have l24 : h21.length = b + 3 := by rw [e22]; exact List.length_set.trans l17
  have f25 : ab_fr (fun i => i = b) h14 h21 := ab_fr_set (ab_fr_rf _ _) e22 rfl
  have kf26 : at_Body h21 (b + 1) lx .null (fun _ => 0) (fun _ _ => 0) := fr_Body f25 kf16 (by intro i hi hs; simp only [in_Body] at hi hs <;> omega)
  have fr27 : ab_fr (in_up b) h h21 := ab_fr_set fr20 e22 (by first | (show _ ∧ _; omega) | (show _ ∨ _; omega) | (show _ = _; omega) | (show _ ≤ _; omega))
  clear c19 kf16 l17 fr20 e22 f25
  try clear h14
  exact ab_vret d_Reader_init_21 rfl (by decide) (by decide) (by exact ⟨rfl, c23, kf26, l24, fr27⟩)
set_option maxRecDepth 20000 in
set_option maxHeartbeats 2000000 in
theorem c_Shapes_init_16 {h : List ab_E}  {b : Nat}   (ho : h[b]? = some (.inr (3, [.null, .null, .null, .int 0]))) (hlen : h.length = b + 1)  : ab_M y_Shapes_init { frames := 3, cells := 67, slots := 337, locals := 100 } [.ref b, .int 16, .int 48] h (ab_A none (fun h1 => at_CSh h1 b (fun _ => 0) (fun _ _ => 0) ∧ at_Names h1 (b + 1) 16 (fun _ => .float 1) (fun _ _ => 0) ∧ at_Names h1 (b + 18) 48 (fun _ => .float 1) (fun _ _ => 0) ∧ h1.length = b + 68 ∧ ab_fr (in_up b) h h1)) := by
  refine ab_of2 (lv := [some (.ref b), some (.int 16), some (.int 48)]) 0 rfl rfl (Nat.le_of_ble_eq_true rfl) ?_
  refine ab_aload_n d_Shapes_init_0 rfl rfl rfl ?_
  refine ab_objInit d_Shapes_init_1 (k3 20 rfl rfl) (k1 37 rfl rfl) (k1 38 rfl rfl) (by decide) (by decide) ?_
  refine ab_aload_n d_Shapes_init_4 rfl rfl rfl ?_
  refine ab_iload_n d_Shapes_init_5 rfl rfl ?_
  refine ab_callS_a (As := [.int 16]) (rest := [.ref b]) d_Shapes_init_6 (c_Named_rowOf (n := 16) (by decide) hlen) (ab_mkC s_Named_rowOf (Nat.le_of_ble_eq_true rfl) (Nat.le_of_ble_eq_true rfl) (by decide) (by decide)) (k3 21 rfl rfl) t_Named_rowOf rfl (Nat.le_of_ble_eq_true rfl) (fun h1 q2 => ?_)
  obtain ⟨kf3, l4, f5⟩ := q2
  replace l4 : h1.length = b + 18 := l4
  have c6 : h1[b]? = some (.inr (3, [.null, .null, .null, .int 0])) := ab_fr_at f5 ho (by simp only [in_up] <;> omega)
  have fr7 : ab_fr (in_up b) h h1 := ab_fr_tr (ab_fr_rf _ _) (ab_fr_mono f5 (by intro i hi; simp only [in_up, in_up] at * <;> omega))
  clear f5
  refine ab_putF (f := 0) d_Shapes_init_9 c6 rfl (by decide) (k3 23 rfl rfl) rfl rfl rfl rfl (fun _ => rfl) (fun _ => rfl) (Nat.le_of_ble_eq_true rfl) ?_
  show ab_V _ _ _ _ _ _ _ 12 [some (.ref b), some (.int 16), some (.int 48)] [] (h1.set b (.inr (3, [.ref (b + 1), .null, .null, .int 0])))
  refine ab_gen (fun h8 e9 => ?_)
  have c10 : h8[b]? = some (.inr (3, [.ref (b + 1), .null, .null, .int 0])) := ab_self e9 c6
  have l11 : h8.length = b + 18 := by rw [e9]; exact List.length_set.trans l4
  have f12 : ab_fr (fun i => i = b) h1 h8 := ab_fr_set (ab_fr_rf _ _) e9 rfl
  have kf13 : at_Names h8 (b + 1) 16 (fun _ => .float 1) (fun _ _ => 0) := fr_Names f12 kf3 (by intro i hi hs; simp only [in_Names] at hi hs <;> omega)
  have fr14 : ab_fr (in_up b) h h8 := ab_fr_set fr7 e9 (by first | (show _ ∧ _; omega) | (show _ ∨ _; omega) | (show _ = _; omega) | (show _ ≤ _; omega))
  clear c6 kf3 l4 fr7 e9 f12
  try clear h1
  refine ab_aload_n d_Shapes_init_12 rfl rfl rfl ?_
  refine ab_iload_n d_Shapes_init_13 rfl rfl ?_
  refine ab_callS_a (As := [.int 48]) (rest := [.ref b]) d_Shapes_init_14 (c_Named_rowOf (n := 48) (by decide) l11) (ab_mkC s_Named_rowOf (Nat.le_of_ble_eq_true rfl) (Nat.le_of_ble_eq_true rfl) (by decide) (by decide)) (k3 21 rfl rfl) t_Named_rowOf rfl (Nat.le_of_ble_eq_true rfl) (fun h15 q16 => ?_)
  obtain ⟨kf17, l18, f19⟩ := q16
  replace l18 : h15.length = b + 67 := l18
  have c20 : h15[b]? = some (.inr (3, [.ref (b + 1), .null, .null, .int 0])) := ab_fr_at f19 c10 (by simp only [in_up] <;> omega)
  have kf21 : at_Names h15 (b + 1) 16 (fun _ => .float 1) (fun _ _ => 0) := fr_Names f19 kf13 (by intro i hi hs; simp only [in_Names, in_up] at hi hs <;> omega)
  have fr22 : ab_fr (in_up b) h h15 := ab_fr_tr fr14 (ab_fr_mono f19 (by intro i hi; simp only [in_up, in_up] at * <;> omega))
  clear c10 kf13 l11 f19 fr14
  try clear h8
  refine ab_putF (f := 1) d_Shapes_init_17 c20 rfl (by decide) (k3 25 rfl rfl) rfl rfl rfl rfl (fun _ => rfl) (fun _ => rfl) (Nat.le_of_ble_eq_true rfl) ?_
  show ab_V _ _ _ _ _ _ _ 20 [some (.ref b), some (.int 16), some (.int 48)] [] (h15.set b (.inr (3, [.ref (b + 1), .ref (b + 18), .null, .int 0])))
  refine ab_gen (fun h23 e24 => ?_)
  have c25 : h23[b]? = some (.inr (3, [.ref (b + 1), .ref (b + 18), .null, .int 0])) := ab_self e24 c20
  have l26 : h23.length = b + 67 := by rw [e24]; exact List.length_set.trans l18
  have f27 : ab_fr (fun i => i = b) h15 h23 := ab_fr_set (ab_fr_rf _ _) e24 rfl
  have kf28 : at_Names h23 (b + 1) 16 (fun _ => .float 1) (fun _ _ => 0) := fr_Names f27 kf21 (by intro i hi hs; simp only [in_Names] at hi hs <;> omega)
  have kf29 : at_Names h23 (b + 18) 48 (fun _ => .float 1) (fun _ _ => 0) := fr_Names f27 kf17 (by intro i hi hs; simp only [in_Names] at hi hs <;> omega)
  have fr30 : ab_fr (in_up b) h h23 := ab_fr_set fr22 e24 (by first | (show _ ∧ _; omega) | (show _ ∨ _; omega) | (show _ = _; omega) | (show _ ≤ _; omega))
  clear c20 kf21 kf17 l18 fr22 e24 f27
  try clear h15
  refine ab_aload_n d_Shapes_init_20 rfl rfl rfl ?_
  refine ab_iconst (v := 0) d_Shapes_init_21 (by decide) ?_
  refine ab_iload_n d_Shapes_init_22 rfl rfl ?_
  refine ab_callS_a (As := [.int 0, .int 16]) (rest := [.ref b]) d_Shapes_init_23 (c_max0 16 (by decide)) (ab_mkC s_Math_max (Nat.le_of_ble_eq_true rfl) (Nat.le_of_ble_eq_true rfl) (by decide) (by decide)) (k3 22 rfl rfl) t_Math_max rfl (Nat.le_of_ble_eq_true rfl) (fun h32 q31 => ?_)
  subst q31
  refine ab_iconst (v := 1) d_Shapes_init_26 (by decide) ?_
  refine ab_iadd d_Shapes_init_27 ?_
  refine ab_newaL (N := 17) l26 d_Shapes_init_28 rfl (k1 143 rfl rfl) tI (Or.inl rfl) (by decide) (by decide) (by decide) (by decide) (by decide) (fun h33 e34 e35 e36 => ?_)
  have c37 : h33[b + 67]? = some (.inl (.int, 17, .inl (fun _ => 0))) := e35
  have c38 : h33[b]? = some (.inr (3, [.ref (b + 1), .ref (b + 18), .null, .int 0])) := (e36 _ (by omega)).trans c25
  have f39 : ab_fr (fun i => False) h23 h33 := ab_fr_new (ab_fr_rf _ _) e36 e34 l26
  have kf40 : at_Names h33 (b + 1) 16 (fun _ => .float 1) (fun _ _ => 0) := fr_Names f39 kf28 (by intro i hi hs; simp only [in_Names] at hi hs <;> omega)
  have kf41 : at_Names h33 (b + 18) 48 (fun _ => .float 1) (fun _ _ => 0) := fr_Names f39 kf29 (by intro i hi hs; simp only [in_Names] at hi hs <;> omega)
  have fr42 : ab_fr (in_up b) h h33 := ab_fr_new fr30 e36 e34 l26
  have l43 : h33.length = b + 68 := e34
  clear c25 kf28 kf29 e34 e35 e36 f39 l26 fr30
  try clear h23
  refine ab_putF (f := 2) d_Shapes_init_30 c38 rfl (by decide) (k3 32 rfl rfl) rfl rfl rfl rfl (fun _ => rfl) (fun _ => rfl) (Nat.le_of_ble_eq_true rfl) ?_
  show ab_V _ _ _ _ _ _ _ 33 [some (.ref b), some (.int 16), some (.int 48)] [] (h33.set b (.inr (3, [.ref (b + 1), .ref (b + 18), .ref (b + 67), .int 0])))
  refine ab_gen (fun h44 e45 => ?_)
  have c46 : h44[b]? = some (.inr (3, [.ref (b + 1), .ref (b + 18), .ref (b + 67), .int 0])) := ab_self e45 c38
  have c47 : h44[b+67]? = some (.inl (.int, 17, .inl (fun _ => 0))) := ab_other e45 (by omega) c37
  have l48 : h44.length = b + 68 := by rw [e45]; exact List.length_set.trans l43
  have f49 : ab_fr (fun i => i = b) h33 h44 := ab_fr_set (ab_fr_rf _ _) e45 rfl
  have kf50 : at_Names h44 (b + 1) 16 (fun _ => .float 1) (fun _ _ => 0) := fr_Names f49 kf40 (by intro i hi hs; simp only [in_Names] at hi hs <;> omega)
  have kf51 : at_Names h44 (b + 18) 48 (fun _ => .float 1) (fun _ _ => 0) := fr_Names f49 kf41 (by intro i hi hs; simp only [in_Names] at hi hs <;> omega)
  have fr52 : ab_fr (in_up b) h h44 := ab_fr_set fr42 e45 (by first | (show _ ∧ _; omega) | (show _ ∨ _; omega) | (show _ = _; omega) | (show _ ≤ _; omega))
  clear c38 c37 kf40 kf41 l43 fr42 e45 f49
  try clear h33
  exact ab_vret d_Shapes_init_33 rfl (by decide) (by decide) (by exact ⟨rfl, ⟨c46, c47⟩, kf50, kf51, l48, fr52⟩)
set_option maxRecDepth 20000 in
set_option maxHeartbeats 2000000 in
theorem c_Shapes_init_8 {h : List ab_E}  {b : Nat}   (ho : h[b]? = some (.inr (3, [.null, .null, .null, .int 0]))) (hlen : h.length = b + 1)  : ab_M y_Shapes_init { frames := 3, cells := 43, slots := 209, locals := 100 } [.ref b, .int 8, .int 32] h (ab_A none (fun h1 => at_ESh h1 b (fun _ => 0) (fun _ _ => 0) ∧ at_Names h1 (b + 1) 8 (fun _ => .float 1) (fun _ _ => 0) ∧ at_Names h1 (b + 10) 32 (fun _ => .float 1) (fun _ _ => 0) ∧ h1.length = b + 44 ∧ ab_fr (in_up b) h h1)) := by
  refine ab_of2 (lv := [some (.ref b), some (.int 8), some (.int 32)]) 0 rfl rfl (Nat.le_of_ble_eq_true rfl) ?_
  refine ab_aload_n d_Shapes_init_0 rfl rfl rfl ?_
  refine ab_objInit d_Shapes_init_1 (k3 20 rfl rfl) (k1 37 rfl rfl) (k1 38 rfl rfl) (by decide) (by decide) ?_
  refine ab_aload_n d_Shapes_init_4 rfl rfl rfl ?_
  refine ab_iload_n d_Shapes_init_5 rfl rfl ?_
  refine ab_callS_a (As := [.int 8]) (rest := [.ref b]) d_Shapes_init_6 (c_Named_rowOf (n := 8) (by decide) hlen) (ab_mkC s_Named_rowOf (Nat.le_of_ble_eq_true rfl) (Nat.le_of_ble_eq_true rfl) (by decide) (by decide)) (k3 21 rfl rfl) t_Named_rowOf rfl (Nat.le_of_ble_eq_true rfl) (fun h1 q2 => ?_)
  obtain ⟨kf3, l4, f5⟩ := q2
  replace l4 : h1.length = b + 10 := l4
  have c6 : h1[b]? = some (.inr (3, [.null, .null, .null, .int 0])) := ab_fr_at f5 ho (by simp only [in_up] <;> omega)
  have fr7 : ab_fr (in_up b) h h1 := ab_fr_tr (ab_fr_rf _ _) (ab_fr_mono f5 (by intro i hi; simp only [in_up, in_up] at * <;> omega))
  clear f5
  refine ab_putF (f := 0) d_Shapes_init_9 c6 rfl (by decide) (k3 23 rfl rfl) rfl rfl rfl rfl (fun _ => rfl) (fun _ => rfl) (Nat.le_of_ble_eq_true rfl) ?_
  show ab_V _ _ _ _ _ _ _ 12 [some (.ref b), some (.int 8), some (.int 32)] [] (h1.set b (.inr (3, [.ref (b + 1), .null, .null, .int 0])))
  refine ab_gen (fun h8 e9 => ?_)
  have c10 : h8[b]? = some (.inr (3, [.ref (b + 1), .null, .null, .int 0])) := ab_self e9 c6
  have l11 : h8.length = b + 10 := by rw [e9]; exact List.length_set.trans l4
  have f12 : ab_fr (fun i => i = b) h1 h8 := ab_fr_set (ab_fr_rf _ _) e9 rfl
  have kf13 : at_Names h8 (b + 1) 8 (fun _ => .float 1) (fun _ _ => 0) := fr_Names f12 kf3 (by intro i hi hs; simp only [in_Names] at hi hs <;> omega)
  have fr14 : ab_fr (in_up b) h h8 := ab_fr_set fr7 e9 (by first | (show _ ∧ _; omega) | (show _ ∨ _; omega) | (show _ = _; omega) | (show _ ≤ _; omega))
  clear c6 kf3 l4 fr7 e9 f12
  try clear h1
  refine ab_aload_n d_Shapes_init_12 rfl rfl rfl ?_
  refine ab_iload_n d_Shapes_init_13 rfl rfl ?_
  refine ab_callS_a (As := [.int 32]) (rest := [.ref b]) d_Shapes_init_14 (c_Named_rowOf (n := 32) (by decide) l11) (ab_mkC s_Named_rowOf (Nat.le_of_ble_eq_true rfl) (Nat.le_of_ble_eq_true rfl) (by decide) (by decide)) (k3 21 rfl rfl) t_Named_rowOf rfl (Nat.le_of_ble_eq_true rfl) (fun h15 q16 => ?_)
  obtain ⟨kf17, l18, f19⟩ := q16
  replace l18 : h15.length = b + 43 := l18
  have c20 : h15[b]? = some (.inr (3, [.ref (b + 1), .null, .null, .int 0])) := ab_fr_at f19 c10 (by simp only [in_up] <;> omega)
  have kf21 : at_Names h15 (b + 1) 8 (fun _ => .float 1) (fun _ _ => 0) := fr_Names f19 kf13 (by intro i hi hs; simp only [in_Names, in_up] at hi hs <;> omega)
  have fr22 : ab_fr (in_up b) h h15 := ab_fr_tr fr14 (ab_fr_mono f19 (by intro i hi; simp only [in_up, in_up] at * <;> omega))
  clear c10 kf13 l11 f19 fr14
  try clear h8
  refine ab_putF (f := 1) d_Shapes_init_17 c20 rfl (by decide) (k3 25 rfl rfl) rfl rfl rfl rfl (fun _ => rfl) (fun _ => rfl) (Nat.le_of_ble_eq_true rfl) ?_
  show ab_V _ _ _ _ _ _ _ 20 [some (.ref b), some (.int 8), some (.int 32)] [] (h15.set b (.inr (3, [.ref (b + 1), .ref (b + 10), .null, .int 0])))
  refine ab_gen (fun h23 e24 => ?_)
  have c25 : h23[b]? = some (.inr (3, [.ref (b + 1), .ref (b + 10), .null, .int 0])) := ab_self e24 c20
  have l26 : h23.length = b + 43 := by rw [e24]; exact List.length_set.trans l18
  have f27 : ab_fr (fun i => i = b) h15 h23 := ab_fr_set (ab_fr_rf _ _) e24 rfl
  have kf28 : at_Names h23 (b + 1) 8 (fun _ => .float 1) (fun _ _ => 0) := fr_Names f27 kf21 (by intro i hi hs; simp only [in_Names] at hi hs <;> omega)
  have kf29 : at_Names h23 (b + 10) 32 (fun _ => .float 1) (fun _ _ => 0) := fr_Names f27 kf17 (by intro i hi hs; simp only [in_Names] at hi hs <;> omega)
  have fr30 : ab_fr (in_up b) h h23 := ab_fr_set fr22 e24 (by first | (show _ ∧ _; omega) | (show _ ∨ _; omega) | (show _ = _; omega) | (show _ ≤ _; omega))
  clear c20 kf21 kf17 l18 fr22 e24 f27
  try clear h15
  refine ab_aload_n d_Shapes_init_20 rfl rfl rfl ?_
  refine ab_iconst (v := 0) d_Shapes_init_21 (by decide) ?_
  refine ab_iload_n d_Shapes_init_22 rfl rfl ?_
  refine ab_callS_a (As := [.int 0, .int 8]) (rest := [.ref b]) d_Shapes_init_23 (c_max0 8 (by decide)) (ab_mkC s_Math_max (Nat.le_of_ble_eq_true rfl) (Nat.le_of_ble_eq_true rfl) (by decide) (by decide)) (k3 22 rfl rfl) t_Math_max rfl (Nat.le_of_ble_eq_true rfl) (fun h32 q31 => ?_)
  subst q31
  refine ab_iconst (v := 1) d_Shapes_init_26 (by decide) ?_
  refine ab_iadd d_Shapes_init_27 ?_
  refine ab_newaL (N := 9) l26 d_Shapes_init_28 rfl (k1 143 rfl rfl) tI (Or.inl rfl) (by decide) (by decide) (by decide) (by decide) (by decide) (fun h33 e34 e35 e36 => ?_)
  have c37 : h33[b + 43]? = some (.inl (.int, 9, .inl (fun _ => 0))) := e35
  have c38 : h33[b]? = some (.inr (3, [.ref (b + 1), .ref (b + 10), .null, .int 0])) := (e36 _ (by omega)).trans c25
  have f39 : ab_fr (fun i => False) h23 h33 := ab_fr_new (ab_fr_rf _ _) e36 e34 l26
  have kf40 : at_Names h33 (b + 1) 8 (fun _ => .float 1) (fun _ _ => 0) := fr_Names f39 kf28 (by intro i hi hs; simp only [in_Names] at hi hs <;> omega)
  have kf41 : at_Names h33 (b + 10) 32 (fun _ => .float 1) (fun _ _ => 0) := fr_Names f39 kf29 (by intro i hi hs; simp only [in_Names] at hi hs <;> omega)
  have fr42 : ab_fr (in_up b) h h33 := ab_fr_new fr30 e36 e34 l26
  have l43 : h33.length = b + 44 := e34
  clear c25 kf28 kf29 e34 e35 e36 f39 l26 fr30
  try clear h23
  refine ab_putF (f := 2) d_Shapes_init_30 c38 rfl (by decide) (k3 32 rfl rfl) rfl rfl rfl rfl (fun _ => rfl) (fun _ => rfl) (Nat.le_of_ble_eq_true rfl) ?_
  show ab_V _ _ _ _ _ _ _ 33 [some (.ref b), some (.int 8), some (.int 32)] [] (h33.set b (.inr (3, [.ref (b + 1), .ref (b + 10), .ref (b + 43), .int 0])))
  refine ab_gen (fun h44 e45 => ?_)
  have c46 : h44[b]? = some (.inr (3, [.ref (b + 1), .ref (b + 10), .ref (b + 43), .int 0])) := ab_self e45 c38
  have c47 : h44[b+43]? = some (.inl (.int, 9, .inl (fun _ => 0))) := ab_other e45 (by omega) c37
  have l48 : h44.length = b + 44 := by rw [e45]; exact List.length_set.trans l43
  have f49 : ab_fr (fun i => i = b) h33 h44 := ab_fr_set (ab_fr_rf _ _) e45 rfl
  have kf50 : at_Names h44 (b + 1) 8 (fun _ => .float 1) (fun _ _ => 0) := fr_Names f49 kf40 (by intro i hi hs; simp only [in_Names] at hi hs <;> omega)
  have kf51 : at_Names h44 (b + 10) 32 (fun _ => .float 1) (fun _ _ => 0) := fr_Names f49 kf41 (by intro i hi hs; simp only [in_Names] at hi hs <;> omega)
  have fr52 : ab_fr (in_up b) h h44 := ab_fr_set fr42 e45 (by first | (show _ ∧ _; omega) | (show _ ∨ _; omega) | (show _ = _; omega) | (show _ ≤ _; omega))
  clear c38 c37 kf40 kf41 l43 fr42 e45 f49
  try clear h33
  exact ab_vret d_Shapes_init_33 rfl (by decide) (by decide) (by exact ⟨rfl, ⟨c46, c47⟩, kf50, kf51, l48, fr52⟩)
