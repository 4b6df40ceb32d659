def at_MText (h : List ab_E) (b : Nat) (s : Nat → Int32) (a : Nat → Nat → Int32) : Prop :=
  h[b]? = some (.inr (14, [.ref (b + 1), .int (s 1), .int (s 2), .ref (b + 2), .ref (b + 3), .ref (b + 4), .ref (b + 5), .ref (b + 6), .ref (b + 7), .int (s 9), .int (s 10), .int (s 11), .int (s 12), .ref (b + 8), .ref (b + 9), .ref (b + 10), .int (s 16), .ref (b + 11), .ref (b + 12), .ref (b + 13), .ref (b + 14), .int (s 21), .ref (b + 15), .ref (b + 16), .ref (b + 17), .ref (b + 18), .int (s 26), .ref (b + 19), .ref (b + 20), .int (s 29), .ref (b + 21), .ref (b + 22), .ref (b + 23), .ref (b + 24), .ref (b + 25), .ref (b + 26), .ref (b + 27), .int (s 37), .ref (b + 28), .ref (b + 29), .ref (b + 30), .int (s 41), .int (s 42)])) ∧ h[b + 1]? = some (.inl (.byte, 6000, .inl (a 0))) ∧ h[b + 2]? = some (.inl (.int, 6002, .inl (a 3))) ∧ h[b + 3]? = some (.inl (.int, 6002, .inl (a 4))) ∧ h[b + 4]? = some (.inl (.int, 6002, .inl (a 5))) ∧ h[b + 5]? = some (.inl (.int, 6002, .inl (a 6))) ∧ h[b + 6]? = some (.inl (.boolean, 6002, .inl (a 7))) ∧ h[b + 7]? = some (.inl (.int, 6002, .inl (a 8))) ∧ h[b + 8]? = some (.inl (.int, 56, .inl (a 13))) ∧ h[b + 9]? = some (.inl (.int, 56, .inl (a 14))) ∧ h[b + 10]? = some (.inl (.int, 56, .inl (a 15))) ∧ h[b + 11]? = some (.inl (.int, 16, .inl (a 17))) ∧ h[b + 12]? = some (.inl (.int, 17, .inl (a 18))) ∧ h[b + 13]? = some (.inl (.int, 48, .inl (a 19))) ∧ h[b + 14]? = some (.inl (.int, 48, .inl (a 20))) ∧ h[b + 15]? = some (.inl (.int, 8, .inl (a 22))) ∧ h[b + 16]? = some (.inl (.int, 8, .inl (a 23))) ∧ h[b + 17]? = some (.inl (.int, 32, .inl (a 24))) ∧ h[b + 18]? = some (.inl (.int, 32, .inl (a 25))) ∧ h[b + 19]? = some (.inl (.int, 16, .inl (a 27))) ∧ h[b + 20]? = some (.inl (.int, 768, .inl (a 28))) ∧ h[b + 21]? = some (.inl (.int, 16, .inl (a 30))) ∧ h[b + 22]? = some (.inl (.int, 16, .inl (a 31))) ∧ h[b + 23]? = some (.inl (.int, 16, .inl (a 32))) ∧ h[b + 24]? = some (.inl (.int, 16, .inl (a 33))) ∧ h[b + 25]? = some (.inl (.int, 16, .inl (a 34))) ∧ h[b + 26]? = some (.inl (.int, 16, .inl (a 35))) ∧ h[b + 27]? = some (.inl (.int, 16, .inl (a 36))) ∧ h[b + 28]? = some (.inl (.int, 12, .inl (a 38))) ∧ h[b + 29]? = some (.inl (.int, 12, .inl (a 39))) ∧ h[b + 30]? = some (.inl (.boolean, 12, .inl (a 40)))
def in_MText (b : Nat) : Nat → Prop := fun i => b ≤ i ∧ i ≤ b + 30
theorem fr_MText {S : Nat → Prop} {h h1 : List ab_E} {b : Nat}  {s : Nat → Int32} {a : Nat → Nat → Int32} (hf : ab_fr S h h1) (h0 : at_MText h b  s a) (hn : ∀ i, in_MText b i → ¬ S i) : at_MText h1 b  s a := by
  obtain ⟨g0, g1, g2, g3, g4, g5, g6, g7, g8, g9, g10, g11, g12, g13, g14, g15, g16, g17, g18, g19, g20, g21, g22, g23, g24, g25, g26, g27, g28, g29, g30⟩ := h0
  exact ⟨ab_fr_at hf g0 (hn _ (by show _ ∧ _; omega)), ab_fr_at hf g1 (hn _ (by show _ ∧ _; omega)), ab_fr_at hf g2 (hn _ (by show _ ∧ _; omega)), ab_fr_at hf g3 (hn _ (by show _ ∧ _; omega)), ab_fr_at hf g4 (hn _ (by show _ ∧ _; omega)), ab_fr_at hf g5 (hn _ (by show _ ∧ _; omega)), ab_fr_at hf g6 (hn _ (by show _ ∧ _; omega)), ab_fr_at hf g7 (hn _ (by show _ ∧ _; omega)), ab_fr_at hf g8 (hn _ (by show _ ∧ _; omega)), ab_fr_at hf g9 (hn _ (by show _ ∧ _; omega)), ab_fr_at hf g10 (hn _ (by show _ ∧ _; omega)), ab_fr_at hf g11 (hn _ (by show _ ∧ _; omega)), ab_fr_at hf g12 (hn _ (by show _ ∧ _; omega)), ab_fr_at hf g13 (hn _ (by show _ ∧ _; omega)), ab_fr_at hf g14 (hn _ (by show _ ∧ _; omega)), ab_fr_at hf g15 (hn _ (by show _ ∧ _; omega)), ab_fr_at hf g16 (hn _ (by show _ ∧ _; omega)), ab_fr_at hf g17 (hn _ (by show _ ∧ _; omega)), ab_fr_at hf g18 (hn _ (by show _ ∧ _; omega)), ab_fr_at hf g19 (hn _ (by show _ ∧ _; omega)), ab_fr_at hf g20 (hn _ (by show _ ∧ _; omega)), ab_fr_at hf g21 (hn _ (by show _ ∧ _; omega)), ab_fr_at hf g22 (hn _ (by show _ ∧ _; omega)), ab_fr_at hf g23 (hn _ (by show _ ∧ _; omega)), ab_fr_at hf g24 (hn _ (by show _ ∧ _; omega)), ab_fr_at hf g25 (hn _ (by show _ ∧ _; omega)), ab_fr_at hf g26 (hn _ (by show _ ∧ _; omega)), ab_fr_at hf g27 (hn _ (by show _ ∧ _; omega)), ab_fr_at hf g28 (hn _ (by show _ ∧ _; omega)), ab_fr_at hf g29 (hn _ (by show _ ∧ _; omega)), ab_fr_at hf g30 (hn _ (by show _ ∧ _; omega))⟩
def at_MWorld (h : List ab_E) (b : Nat) (s : Nat → Int32) (a : Nat → Nat → Int32) : Prop :=
  h[b]? = some (.inr (13, [.int (s 0), .int (s 1), .int (s 2), .int (s 3), .ref (b + 1), .ref (b + 2), .ref (b + 3), .ref (b + 4), .int (s 8), .ref (b + 5), .ref (b + 6), .ref (b + 7), .ref (b + 8), .int (s 13), .int (s 14), .int (s 15), .int (s 16), .ref (b + 9)])) ∧ h[b + 1]? = some (.inl (.int, 256, .inl (a 4))) ∧ h[b + 2]? = some (.inl (.boolean, 256, .inl (a 5))) ∧ h[b + 3]? = some (.inl (.int, 256, .inl (a 6))) ∧ h[b + 4]? = some (.inl (.int, 12288, .inl (a 7))) ∧ h[b + 5]? = some (.inl (.int, 256, .inl (a 9))) ∧ h[b + 6]? = some (.inl (.int, 256, .inl (a 10))) ∧ h[b + 7]? = some (.inl (.int, 256, .inl (a 11))) ∧ h[b + 8]? = some (.inl (.int, 1024, .inl (a 12))) ∧ h[b + 9]? = some (.inl (.int, 32, .inl (a 17)))
def in_MWorld (b : Nat) : Nat → Prop := fun i => b ≤ i ∧ i ≤ b + 9
theorem fr_MWorld {S : Nat → Prop} {h h1 : List ab_E} {b : Nat}  {s : Nat → Int32} {a : Nat → Nat → Int32} (hf : ab_fr S h h1) (h0 : at_MWorld h b  s a) (hn : ∀ i, in_MWorld b i → ¬ S i) : at_MWorld h1 b  s a := by
  obtain ⟨g0, g1, g2, g3, g4, g5, g6, g7, g8, g9⟩ := h0
  exact ⟨ab_fr_at hf g0 (hn _ (by show _ ∧ _; omega)), ab_fr_at hf g1 (hn _ (by show _ ∧ _; omega)), ab_fr_at hf g2 (hn _ (by show _ ∧ _; omega)), ab_fr_at hf g3 (hn _ (by show _ ∧ _; omega)), ab_fr_at hf g4 (hn _ (by show _ ∧ _; omega)), ab_fr_at hf g5 (hn _ (by show _ ∧ _; omega)), ab_fr_at hf g6 (hn _ (by show _ ∧ _; omega)), ab_fr_at hf g7 (hn _ (by show _ ∧ _; omega)), ab_fr_at hf g8 (hn _ (by show _ ∧ _; omega)), ab_fr_at hf g9 (hn _ (by show _ ∧ _; omega))⟩
def at_MRunner (h : List ab_E) (b : Nat) (pv wv iv : Value) (s : Nat → Int32) (a : Nat → Nat → Int32) : Prop :=
  h[b]? = some (.inr (15, [pv, wv, iv, .ref (b + 1), .int (s 4), .int (s 5), .int (s 6), .int (s 7), .int (s 8), .int (s 9), .int (s 10), .int (s 11), .int (s 12), .ref (b + 2), .ref (b + 3), .ref (b + 4)])) ∧ h[b + 1]? = some (.inl (.int, 393216, .inl (a 3))) ∧ h[b + 2]? = some (.inl (.int, 48, .inl (a 13))) ∧ h[b + 3]? = some (.inl (.int, 12, .inl (a 14))) ∧ h[b + 4]? = some (.inl (.int, 8, .inl (a 15)))
def in_MRunner (b : Nat) : Nat → Prop := fun i => b ≤ i ∧ i ≤ b + 4
theorem fr_MRunner {S : Nat → Prop} {h h1 : List ab_E} {b : Nat}  {pv wv iv : Value} {s : Nat → Int32} {a : Nat → Nat → Int32} (hf : ab_fr S h h1) (h0 : at_MRunner h b pv wv iv s a) (hn : ∀ i, in_MRunner b i → ¬ S i) : at_MRunner h1 b pv wv iv s a := by
  obtain ⟨g0, g1, g2, g3, g4⟩ := h0
  exact ⟨ab_fr_at hf g0 (hn _ (by show _ ∧ _; omega)), ab_fr_at hf g1 (hn _ (by show _ ∧ _; omega)), ab_fr_at hf g2 (hn _ (by show _ ∧ _; omega)), ab_fr_at hf g3 (hn _ (by show _ ∧ _; omega)), ab_fr_at hf g4 (hn _ (by show _ ∧ _; omega))⟩
def at_M (h : List ab_E) (b : Nat) (tx ot su nw ma : Nat) (s : Nat → Int32) (a : Nat → Nat → Int32) : Prop :=
  h[b]? = some (.inr (12, [.int (s 0), .ref (b + 1), .int (s 2), .ref tx, .ref ot, .int (s 5), .int (s 6), .int (s 7), .ref su, .ref nw, .ref ma, .ref (b + 94), .int (s 12), .int (s 13), .ref (b + 99), .ref (b + 100), .ref (b + 101), .ref (b + 102), .ref (b + 103), .ref (b + 104), .int (s 20), .ref (b + 105), .int (s 22), .int (s 23), .int (s 24), .ref (b + 106), .ref (b + 107), .int (s 27), .int (s 28)])) ∧ h[b + 1]? = some (.inl (.byte, 6000, .inl (a 1))) ∧ h[b + 99]? = some (.inl (.int, 256, .inl (a 14))) ∧ h[b + 100]? = some (.inl (.boolean, 256, .inl (a 15))) ∧ h[b + 101]? = some (.inl (.int, 64, .inl (a 16))) ∧ h[b + 102]? = some (.inl (.int, 4, .inl (a 17))) ∧ h[b + 103]? = some (.inl (.int, 4, .inl (a 18))) ∧ h[b + 104]? = some (.inl (.int, 256, .inl (a 19))) ∧ h[b + 105]? = some (.inl (.byte, 58000, .inl (a 21))) ∧ h[b + 106]? = some (.inl (.boolean, 8, .inl (a 25))) ∧ h[b + 107]? = some (.inl (.boolean, 8, .inl (a 26)))
def in_M (b : Nat) : Nat → Prop := fun i => i = b ∨ i = b + 1 ∨ i = b + 99 ∨ i = b + 100 ∨ i = b + 101 ∨ i = b + 102 ∨ i = b + 103 ∨ i = b + 104 ∨ i = b + 105 ∨ i = b + 106 ∨ i = b + 107
theorem fr_M {S : Nat → Prop} {h h1 : List ab_E} {b : Nat}  {tx ot su nw ma : Nat} {s : Nat → Int32} {a : Nat → Nat → Int32} (hf : ab_fr S h h1) (h0 : at_M h b tx ot su nw ma s a) (hn : ∀ i, in_M b i → ¬ S i) : at_M h1 b tx ot su nw ma s a := by
  obtain ⟨g0, g1, g2, g3, g4, g5, g6, g7, g8, g9, g10⟩ := h0
  exact ⟨ab_fr_at hf g0 (hn _ (by show _ ∨ _; omega)), ab_fr_at hf g1 (hn _ (by show _ ∨ _; omega)), ab_fr_at hf g2 (hn _ (by show _ ∨ _; omega)), ab_fr_at hf g3 (hn _ (by show _ ∨ _; omega)), ab_fr_at hf g4 (hn _ (by show _ ∨ _; omega)), ab_fr_at hf g5 (hn _ (by show _ ∨ _; omega)), ab_fr_at hf g6 (hn _ (by show _ ∨ _; omega)), ab_fr_at hf g7 (hn _ (by show _ ∨ _; omega)), ab_fr_at hf g8 (hn _ (by show _ ∨ _; omega)), ab_fr_at hf g9 (hn _ (by show _ ∨ _; omega)), ab_fr_at hf g10 (hn _ (by show _ ∨ _; omega))⟩
set_option maxRecDepth 20000 in
set_option maxHeartbeats 2000000 in
theorem c_MText_init {h : List ab_E}  {b : Nat}   (ho : h[b]? = some (.inr (14, [.null, .int 0, .int 0, .null, .null, .null, .null, .null, .null, .int 0, .int 0, .int 0, .int 0, .null, .null, .null, .int 0, .null, .null, .null, .null, .int 0, .null, .null, .null, .null, .int 0, .null, .null, .int 0, .null, .null, .null, .null, .null, .null, .null, .int 0, .null, .null, .null, .int 0, .int 0]))) (hlen : h.length = b + 1)  : ab_M y_MText_init { frames := 1, cells := 30, slots := 43321, locals := 20 } [.ref b] h (ab_A none (fun h1 => at_MText h1 b (fun _ => 0) (fun _ _ => 0) ∧ h1.length = b + 31 ∧ ab_fr (in_up b) h h1)) := by
  refine ab_of2 (lv := [some (.ref b)]) 0 rfl rfl (Nat.le_of_ble_eq_true rfl) ?_
  refine ab_aload_n d_MText_init_0 rfl rfl rfl ?_
  refine ab_objInit d_MText_init_1 (k8 158 rfl rfl) (k1 37 rfl rfl) (k1 38 rfl rfl) (by decide) (by decide) ?_
  refine ab_aload_n d_MText_init_4 rfl rfl rfl ?_
  refine ab_sipush (v := 6000) d_MText_init_5 (by decide) ?_
  refine ab_newaL (N := 6000) hlen d_MText_init_8 rfl (k1 142 rfl rfl) tB (Or.inr (Or.inl rfl)) (by decide) (by decide) (by decide) (by decide) (by decide) (fun h1 e2 e3 e4 => ?_)
  have c5 : h1[b + 1]? = some (.inl (.byte, 6000, .inl (fun _ => 0))) := e3
  have c6 : h1[b]? = some (.inr (14, [.null, .int 0, .int 0, .null, .null, .null, .null, .null, .null, .int 0, .int 0, .int 0, .int 0, .null, .null, .null, .int 0, .null, .null, .null, .null, .int 0, .null, .null, .null, .null, .int 0, .null, .null, .int 0, .null, .null, .null, .null, .null, .null, .null, .int 0, .null, .null, .null, .int 0, .int 0])) := (e4 _ (by omega)).trans ho
  have fr7 : ab_fr (in_up b) h h1 := ab_fr_new (ab_fr_rf _ _) e4 e2 hlen
  have l8 : h1.length = b + 2 := e2
  clear e2 e3 e4
  refine ab_putF (f := 0) d_MText_init_10 c6 rfl (by decide) (k8 159 rfl rfl) rfl rfl rfl rfl (fun _ => rfl) (fun _ => rfl) (Nat.le_of_ble_eq_true rfl) ?_
  show ab_V _ _ _ _ _ _ _ 13 [some (.ref b)] [] (h1.set b (.inr (14, [.ref (b + 1), .int 0, .int 0, .null, .null, .null, .null, .null, .null, .int 0, .int 0, .int 0, .int 0, .null, .null, .null, .int 0, .null, .null, .null, .null, .int 0, .null, .null, .null, .null, .int 0, .null, .null, .int 0, .null, .null, .null, .null, .null, .null, .null, .int 0, .null, .null, .null, .int 0, .int 0])))
  refine ab_gen (fun h9 e10 => ?_)
  have c11 : h9[b]? = some (.inr (14, [.ref (b + 1), .int 0, .int 0, .null, .null, .null, .null, .null, .null, .int 0, .int 0, .int 0, .int 0, .null, .null, .null, .int 0, .null, .null, .null, .null, .int 0, .null, .null, .null, .null, .int 0, .null, .null, .int 0, .null, .null, .null, .null, .null, .null, .null, .int 0, .null, .null, .null, .int 0, .int 0])) := ab_self e10 c6
  have c12 : h9[b+1]? = some (.inl (.byte, 6000, .inl (fun _ => 0))) := ab_other e10 (by omega) c5
  have l13 : h9.length = b + 2 := by rw [e10]; exact List.length_set.trans l8
  have fr14 : ab_fr (in_up b) h h9 := ab_fr_set fr7 e10 (by first | (show _ ∧ _; omega) | (show _ ∨ _; omega) | (show _ = _; omega) | (show _ ≤ _; omega))
  clear c6 c5 l8 fr7 e10
  try clear h1
  refine ab_aload_n d_MText_init_13 rfl rfl rfl ?_
  refine ab_sipush (v := 6002) d_MText_init_14 (by decide) ?_
  refine ab_newaL (N := 6002) l13 d_MText_init_17 rfl (k1 143 rfl rfl) tI (Or.inl rfl) (by decide) (by decide) (by decide) (by decide) (by decide) (fun h15 e16 e17 e18 => ?_)
  have c19 : h15[b + 2]? = some (.inl (.int, 6002, .inl (fun _ => 0))) := e17
  have c20 : h15[b]? = some (.inr (14, [.ref (b + 1), .int 0, .int 0, .null, .null, .null, .null, .null, .null, .int 0, .int 0, .int 0, .int 0, .null, .null, .null, .int 0, .null, .null, .null, .null, .int 0, .null, .null, .null, .null, .int 0, .null, .null, .int 0, .null, .null, .null, .null, .null, .null, .null, .int 0, .null, .null, .null, .int 0, .int 0])) := (e18 _ (by omega)).trans c11
  have c21 : h15[b+1]? = some (.inl (.byte, 6000, .inl (fun _ => 0))) := (e18 _ (by omega)).trans c12
  have fr22 : ab_fr (in_up b) h h15 := ab_fr_new fr14 e18 e16 l13
  have l23 : h15.length = b + 3 := e16
  clear c11 c12 e16 e17 e18 l13 fr14
  try clear h9
  refine ab_putF (f := 3) d_MText_init_19 c20 rfl (by decide) (k8 162 rfl rfl) rfl rfl rfl rfl (fun _ => rfl) (fun _ => rfl) (Nat.le_of_ble_eq_true rfl) ?_
  show ab_V _ _ _ _ _ _ _ 22 [some (.ref b)] [] (h15.set b (.inr (14, [.ref (b + 1), .int 0, .int 0, .ref (b + 2), .null, .null, .null, .null, .null, .int 0, .int 0, .int 0, .int 0, .null, .null, .null, .int 0, .null, .null, .null, .null, .int 0, .null, .null, .null, .null, .int 0, .null, .null, .int 0, .null, .null, .null, .null, .null, .null, .null, .int 0, .null, .null, .null, .int 0, .int 0])))
  refine ab_gen (fun h24 e25 => ?_)
  have c26 : h24[b]? = some (.inr (14, [.ref (b + 1), .int 0, .int 0, .ref (b + 2), .null, .null, .null, .null, .null, .int 0, .int 0, .int 0, .int 0, .null, .null, .null, .int 0, .null, .null, .null, .null, .int 0, .null, .null, .null, .null, .int 0, .null, .null, .int 0, .null, .null, .null, .null, .null, .null, .null, .int 0, .null, .null, .null, .int 0, .int 0])) := ab_self e25 c20
  have c27 : h24[b+1]? = some (.inl (.byte, 6000, .inl (fun _ => 0))) := ab_other e25 (by omega) c21
  have c28 : h24[b+2]? = some (.inl (.int, 6002, .inl (fun _ => 0))) := ab_other e25 (by omega) c19
  have l29 : h24.length = b + 3 := by rw [e25]; exact List.length_set.trans l23
  have fr30 : ab_fr (in_up b) h h24 := ab_fr_set fr22 e25 (by first | (show _ ∧ _; omega) | (show _ ∨ _; omega) | (show _ = _; omega) | (show _ ≤ _; omega))
  clear c20 c21 c19 l23 fr22 e25
  try clear h15
  refine ab_aload_n d_MText_init_22 rfl rfl rfl ?_
  refine ab_sipush (v := 6002) d_MText_init_23 (by decide) ?_
  refine ab_newaL (N := 6002) l29 d_MText_init_26 rfl (k1 143 rfl rfl) tI (Or.inl rfl) (by decide) (by decide) (by decide) (by decide) (by decide) (fun h31 e32 e33 e34 => ?_)
  have c35 : h31[b + 3]? = some (.inl (.int, 6002, .inl (fun _ => 0))) := e33
  have c36 : h31[b]? = some (.inr (14, [.ref (b + 1), .int 0, .int 0, .ref (b + 2), .null, .null, .null, .null, .null, .int 0, .int 0, .int 0, .int 0, .null, .null, .null, .int 0, .null, .null, .null, .null, .int 0, .null, .null, .null, .null, .int 0, .null, .null, .int 0, .null, .null, .null, .null, .null, .null, .null, .int 0, .null, .null, .null, .int 0, .int 0])) := (e34 _ (by omega)).trans c26
  have c37 : h31[b+1]? = some (.inl (.byte, 6000, .inl (fun _ => 0))) := (e34 _ (by omega)).trans c27
  have c38 : h31[b+2]? = some (.inl (.int, 6002, .inl (fun _ => 0))) := (e34 _ (by omega)).trans c28
  have fr39 : ab_fr (in_up b) h h31 := ab_fr_new fr30 e34 e32 l29
  have l40 : h31.length = b + 4 := e32
  clear c26 c27 c28 e32 e33 e34 l29 fr30
  try clear h24
  refine ab_putF (f := 4) d_MText_init_28 c36 rfl (by decide) (k8 164 rfl rfl) rfl rfl rfl rfl (fun _ => rfl) (fun _ => rfl) (Nat.le_of_ble_eq_true rfl) ?_
  show ab_V _ _ _ _ _ _ _ 31 [some (.ref b)] [] (h31.set b (.inr (14, [.ref (b + 1), .int 0, .int 0, .ref (b + 2), .ref (b + 3), .null, .null, .null, .null, .int 0, .int 0, .int 0, .int 0, .null, .null, .null, .int 0, .null, .null, .null, .null, .int 0, .null, .null, .null, .null, .int 0, .null, .null, .int 0, .null, .null, .null, .null, .null, .null, .null, .int 0, .null, .null, .null, .int 0, .int 0])))
  refine ab_gen (fun h41 e42 => ?_)
  have c43 : h41[b]? = some (.inr (14, [.ref (b + 1), .int 0, .int 0, .ref (b + 2), .ref (b + 3), .null, .null, .null, .null, .int 0, .int 0, .int 0, .int 0, .null, .null, .null, .int 0, .null, .null, .null, .null, .int 0, .null, .null, .null, .null, .int 0, .null, .null, .int 0, .null, .null, .null, .null, .null, .null, .null, .int 0, .null, .null, .null, .int 0, .int 0])) := ab_self e42 c36
  have c44 : h41[b+1]? = some (.inl (.byte, 6000, .inl (fun _ => 0))) := ab_other e42 (by omega) c37
  have c45 : h41[b+2]? = some (.inl (.int, 6002, .inl (fun _ => 0))) := ab_other e42 (by omega) c38
  have c46 : h41[b+3]? = some (.inl (.int, 6002, .inl (fun _ => 0))) := ab_other e42 (by omega) c35
  have l47 : h41.length = b + 4 := by rw [e42]; exact List.length_set.trans l40
  have fr48 : ab_fr (in_up b) h h41 := ab_fr_set fr39 e42 (by first | (show _ ∧ _; omega) | (show _ ∨ _; omega) | (show _ = _; omega) | (show _ ≤ _; omega))
  clear c36 c37 c38 c35 l40 fr39 e42
  try clear h31
  refine ab_aload_n d_MText_init_31 rfl rfl rfl ?_
  refine ab_sipush (v := 6002) d_MText_init_32 (by decide) ?_
  refine ab_newaL (N := 6002) l47 d_MText_init_35 rfl (k1 143 rfl rfl) tI (Or.inl rfl) (by decide) (by decide) (by decide) (by decide) (by decide) (fun h49 e50 e51 e52 => ?_)
  have c53 : h49[b + 4]? = some (.inl (.int, 6002, .inl (fun _ => 0))) := e51
  have c54 : h49[b]? = some (.inr (14, [.ref (b + 1), .int 0, .int 0, .ref (b + 2), .ref (b + 3), .null, .null, .null, .null, .int 0, .int 0, .int 0, .int 0, .null, .null, .null, .int 0, .null, .null, .null, .null, .int 0, .null, .null, .null, .null, .int 0, .null, .null, .int 0, .null, .null, .null, .null, .null, .null, .null, .int 0, .null, .null, .null, .int 0, .int 0])) := (e52 _ (by omega)).trans c43
  have c55 : h49[b+1]? = some (.inl (.byte, 6000, .inl (fun _ => 0))) := (e52 _ (by omega)).trans c44
  have c56 : h49[b+2]? = some (.inl (.int, 6002, .inl (fun _ => 0))) := (e52 _ (by omega)).trans c45
  have c57 : h49[b+3]? = some (.inl (.int, 6002, .inl (fun _ => 0))) := (e52 _ (by omega)).trans c46
  have fr58 : ab_fr (in_up b) h h49 := ab_fr_new fr48 e52 e50 l47
  have l59 : h49.length = b + 5 := e50
  clear c43 c44 c45 c46 e50 e51 e52 l47 fr48
  try clear h41
  refine ab_putF (f := 5) d_MText_init_37 c54 rfl (by decide) (k8 165 rfl rfl) rfl rfl rfl rfl (fun _ => rfl) (fun _ => rfl) (Nat.le_of_ble_eq_true rfl) ?_
  show ab_V _ _ _ _ _ _ _ 40 [some (.ref b)] [] (h49.set b (.inr (14, [.ref (b + 1), .int 0, .int 0, .ref (b + 2), .ref (b + 3), .ref (b + 4), .null, .null, .null, .int 0, .int 0, .int 0, .int 0, .null, .null, .null, .int 0, .null, .null, .null, .null, .int 0, .null, .null, .null, .null, .int 0, .null, .null, .int 0, .null, .null, .null, .null, .null, .null, .null, .int 0, .null, .null, .null, .int 0, .int 0])))
  refine ab_gen (fun h60 e61 => ?_)
  have c62 : h60[b]? = some (.inr (14, [.ref (b + 1), .int 0, .int 0, .ref (b + 2), .ref (b + 3), .ref (b + 4), .null, .null, .null, .int 0, .int 0, .int 0, .int 0, .null, .null, .null, .int 0, .null, .null, .null, .null, .int 0, .null, .null, .null, .null, .int 0, .null, .null, .int 0, .null, .null, .null, .null, .null, .null, .null, .int 0, .null, .null, .null, .int 0, .int 0])) := ab_self e61 c54
  have c63 : h60[b+1]? = some (.inl (.byte, 6000, .inl (fun _ => 0))) := ab_other e61 (by omega) c55
  have c64 : h60[b+2]? = some (.inl (.int, 6002, .inl (fun _ => 0))) := ab_other e61 (by omega) c56
  have c65 : h60[b+3]? = some (.inl (.int, 6002, .inl (fun _ => 0))) := ab_other e61 (by omega) c57
  have c66 : h60[b+4]? = some (.inl (.int, 6002, .inl (fun _ => 0))) := ab_other e61 (by omega) c53
  have l67 : h60.length = b + 5 := by rw [e61]; exact List.length_set.trans l59
  have fr68 : ab_fr (in_up b) h h60 := ab_fr_set fr58 e61 (by first | (show _ ∧ _; omega) | (show _ ∨ _; omega) | (show _ = _; omega) | (show _ ≤ _; omega))
  clear c54 c55 c56 c57 c53 l59 fr58 e61
  try clear h49
  refine ab_aload_n d_MText_init_40 rfl rfl rfl ?_
  refine ab_sipush (v := 6002) d_MText_init_41 (by decide) ?_
  refine ab_newaL (N := 6002) l67 d_MText_init_44 rfl (k1 143 rfl rfl) tI (Or.inl rfl) (by decide) (by decide) (by decide) (by decide) (by decide) (fun h69 e70 e71 e72 => ?_)
  have c73 : h69[b + 5]? = some (.inl (.int, 6002, .inl (fun _ => 0))) := e71
  have c74 : h69[b]? = some (.inr (14, [.ref (b + 1), .int 0, .int 0, .ref (b + 2), .ref (b + 3), .ref (b + 4), .null, .null, .null, .int 0, .int 0, .int 0, .int 0, .null, .null, .null, .int 0, .null, .null, .null, .null, .int 0, .null, .null, .null, .null, .int 0, .null, .null, .int 0, .null, .null, .null, .null, .null, .null, .null, .int 0, .null, .null, .null, .int 0, .int 0])) := (e72 _ (by omega)).trans c62
  have c75 : h69[b+1]? = some (.inl (.byte, 6000, .inl (fun _ => 0))) := (e72 _ (by omega)).trans c63
  have c76 : h69[b+2]? = some (.inl (.int, 6002, .inl (fun _ => 0))) := (e72 _ (by omega)).trans c64
  have c77 : h69[b+3]? = some (.inl (.int, 6002, .inl (fun _ => 0))) := (e72 _ (by omega)).trans c65
  have c78 : h69[b+4]? = some (.inl (.int, 6002, .inl (fun _ => 0))) := (e72 _ (by omega)).trans c66
  have fr79 : ab_fr (in_up b) h h69 := ab_fr_new fr68 e72 e70 l67
  have l80 : h69.length = b + 6 := e70
  clear c62 c63 c64 c65 c66 e70 e71 e72 l67 fr68
  try clear h60
  refine ab_putF (f := 6) d_MText_init_46 c74 rfl (by decide) (k8 166 rfl rfl) rfl rfl rfl rfl (fun _ => rfl) (fun _ => rfl) (Nat.le_of_ble_eq_true rfl) ?_
  show ab_V _ _ _ _ _ _ _ 49 [some (.ref b)] [] (h69.set b (.inr (14, [.ref (b + 1), .int 0, .int 0, .ref (b + 2), .ref (b + 3), .ref (b + 4), .ref (b + 5), .null, .null, .int 0, .int 0, .int 0, .int 0, .null, .null, .null, .int 0, .null, .null, .null, .null, .int 0, .null, .null, .null, .null, .int 0, .null, .null, .int 0, .null, .null, .null, .null, .null, .null, .null, .int 0, .null, .null, .null, .int 0, .int 0])))
  refine ab_gen (fun h81 e82 => ?_)
  have c83 : h81[b]? = some (.inr (14, [.ref (b + 1), .int 0, .int 0, .ref (b + 2), .ref (b + 3), .ref (b + 4), .ref (b + 5), .null, .null, .int 0, .int 0, .int 0, .int 0, .null, .null, .null, .int 0, .null, .null, .null, .null, .int 0, .null, .null, .null, .null, .int 0, .null, .null, .int 0, .null, .null, .null, .null, .null, .null, .null, .int 0, .null, .null, .null, .int 0, .int 0])) := ab_self e82 c74
  have c84 : h81[b+1]? = some (.inl (.byte, 6000, .inl (fun _ => 0))) := ab_other e82 (by omega) c75
  have c85 : h81[b+2]? = some (.inl (.int, 6002, .inl (fun _ => 0))) := ab_other e82 (by omega) c76
  have c86 : h81[b+3]? = some (.inl (.int, 6002, .inl (fun _ => 0))) := ab_other e82 (by omega) c77
  have c87 : h81[b+4]? = some (.inl (.int, 6002, .inl (fun _ => 0))) := ab_other e82 (by omega) c78
  have c88 : h81[b+5]? = some (.inl (.int, 6002, .inl (fun _ => 0))) := ab_other e82 (by omega) c73
  have l89 : h81.length = b + 6 := by rw [e82]; exact List.length_set.trans l80
  have fr90 : ab_fr (in_up b) h h81 := ab_fr_set fr79 e82 (by first | (show _ ∧ _; omega) | (show _ ∨ _; omega) | (show _ = _; omega) | (show _ ≤ _; omega))
  clear c74 c75 c76 c77 c78 c73 l80 fr79 e82
  try clear h69
  refine ab_aload_n d_MText_init_49 rfl rfl rfl ?_
  refine ab_sipush (v := 6002) d_MText_init_50 (by decide) ?_
  refine ab_newaL (N := 6002) l89 d_MText_init_53 rfl (k1 144 rfl rfl) tZ (Or.inr (Or.inr (Or.inl rfl))) (by decide) (by decide) (by decide) (by decide) (by decide) (fun h91 e92 e93 e94 => ?_)
  have c95 : h91[b + 6]? = some (.inl (.boolean, 6002, .inl (fun _ => 0))) := e93
  have c96 : h91[b]? = some (.inr (14, [.ref (b + 1), .int 0, .int 0, .ref (b + 2), .ref (b + 3), .ref (b + 4), .ref (b + 5), .null, .null, .int 0, .int 0, .int 0, .int 0, .null, .null, .null, .int 0, .null, .null, .null, .null, .int 0, .null, .null, .null, .null, .int 0, .null, .null, .int 0, .null, .null, .null, .null, .null, .null, .null, .int 0, .null, .null, .null, .int 0, .int 0])) := (e94 _ (by omega)).trans c83
  have c97 : h91[b+1]? = some (.inl (.byte, 6000, .inl (fun _ => 0))) := (e94 _ (by omega)).trans c84
  have c98 : h91[b+2]? = some (.inl (.int, 6002, .inl (fun _ => 0))) := (e94 _ (by omega)).trans c85
  have c99 : h91[b+3]? = some (.inl (.int, 6002, .inl (fun _ => 0))) := (e94 _ (by omega)).trans c86
  have c100 : h91[b+4]? = some (.inl (.int, 6002, .inl (fun _ => 0))) := (e94 _ (by omega)).trans c87
  have c101 : h91[b+5]? = some (.inl (.int, 6002, .inl (fun _ => 0))) := (e94 _ (by omega)).trans c88
  have fr102 : ab_fr (in_up b) h h91 := ab_fr_new fr90 e94 e92 l89
  have l103 : h91.length = b + 7 := e92
  clear c83 c84 c85 c86 c87 c88 e92 e93 e94 l89 fr90
  try clear h81
  refine ab_putF (f := 7) d_MText_init_55 c96 rfl (by decide) (k8 168 rfl rfl) rfl rfl rfl rfl (fun _ => rfl) (fun _ => rfl) (Nat.le_of_ble_eq_true rfl) ?_
  show ab_V _ _ _ _ _ _ _ 58 [some (.ref b)] [] (h91.set b (.inr (14, [.ref (b + 1), .int 0, .int 0, .ref (b + 2), .ref (b + 3), .ref (b + 4), .ref (b + 5), .ref (b + 6), .null, .int 0, .int 0, .int 0, .int 0, .null, .null, .null, .int 0, .null, .null, .null, .null, .int 0, .null, .null, .null, .null, .int 0, .null, .null, .int 0, .null, .null, .null, .null, .null, .null, .null, .int 0, .null, .null, .null, .int 0, .int 0])))
  refine ab_gen (fun h104 e105 => ?_)
  have c106 : h104[b]? = some (.inr (14, [.ref (b + 1), .int 0, .int 0, .ref (b + 2), .ref (b + 3), .ref (b + 4), .ref (b + 5), .ref (b + 6), .null, .int 0, .int 0, .int 0, .int 0, .null, .null, .null, .int 0, .null, .null, .null, .null, .int 0, .null, .null, .null, .null, .int 0, .null, .null, .int 0, .null, .null, .null, .null, .null, .null, .null, .int 0, .null, .null, .null, .int 0, .int 0])) := ab_self e105 c96
  have c107 : h104[b+1]? = some (.inl (.byte, 6000, .inl (fun _ => 0))) := ab_other e105 (by omega) c97
  have c108 : h104[b+2]? = some (.inl (.int, 6002, .inl (fun _ => 0))) := ab_other e105 (by omega) c98
  have c109 : h104[b+3]? = some (.inl (.int, 6002, .inl (fun _ => 0))) := ab_other e105 (by omega) c99
  have c110 : h104[b+4]? = some (.inl (.int, 6002, .inl (fun _ => 0))) := ab_other e105 (by omega) c100
  have c111 : h104[b+5]? = some (.inl (.int, 6002, .inl (fun _ => 0))) := ab_other e105 (by omega) c101
  have c112 : h104[b+6]? = some (.inl (.boolean, 6002, .inl (fun _ => 0))) := ab_other e105 (by omega) c95
  have l113 : h104.length = b + 7 := by rw [e105]; exact List.length_set.trans l103
  have fr114 : ab_fr (in_up b) h h104 := ab_fr_set fr102 e105 (by first | (show _ ∧ _; omega) | (show _ ∨ _; omega) | (show _ = _; omega) | (show _ ≤ _; omega))
  clear c96 c97 c98 c99 c100 c101 c95 l103 fr102 e105
  try clear h91
  refine ab_aload_n d_MText_init_58 rfl rfl rfl ?_
  refine ab_sipush (v := 6002) d_MText_init_59 (by decide) ?_
  refine ab_newaL (N := 6002) l113 d_MText_init_62 rfl (k1 143 rfl rfl) tI (Or.inl rfl) (by decide) (by decide) (by decide) (by decide) (by decide) (fun h115 e116 e117 e118 => ?_)
  have c119 : h115[b + 7]? = some (.inl (.int, 6002, .inl (fun _ => 0))) := e117
  have c120 : h115[b]? = some (.inr (14, [.ref (b + 1), .int 0, .int 0, .ref (b + 2), .ref (b + 3), .ref (b + 4), .ref (b + 5), .ref (b + 6), .null, .int 0, .int 0, .int 0, .int 0, .null, .null, .null, .int 0, .null, .null, .null, .null, .int 0, .null, .null, .null, .null, .int 0, .null, .null, .int 0, .null, .null, .null, .null, .null, .null, .null, .int 0, .null, .null, .null, .int 0, .int 0])) := (e118 _ (by omega)).trans c106
  have c121 : h115[b+1]? = some (.inl (.byte, 6000, .inl (fun _ => 0))) := (e118 _ (by omega)).trans c107
  have c122 : h115[b+2]? = some (.inl (.int, 6002, .inl (fun _ => 0))) := (e118 _ (by omega)).trans c108
  have c123 : h115[b+3]? = some (.inl (.int, 6002, .inl (fun _ => 0))) := (e118 _ (by omega)).trans c109
  have c124 : h115[b+4]? = some (.inl (.int, 6002, .inl (fun _ => 0))) := (e118 _ (by omega)).trans c110
  have c125 : h115[b+5]? = some (.inl (.int, 6002, .inl (fun _ => 0))) := (e118 _ (by omega)).trans c111
  have c126 : h115[b+6]? = some (.inl (.boolean, 6002, .inl (fun _ => 0))) := (e118 _ (by omega)).trans c112
  have fr127 : ab_fr (in_up b) h h115 := ab_fr_new fr114 e118 e116 l113
  have l128 : h115.length = b + 8 := e116
  clear c106 c107 c108 c109 c110 c111 c112 e116 e117 e118 l113 fr114
  try clear h104
  refine ab_putF (f := 8) d_MText_init_64 c120 rfl (by decide) (k8 169 rfl rfl) rfl rfl rfl rfl (fun _ => rfl) (fun _ => rfl) (Nat.le_of_ble_eq_true rfl) ?_
  show ab_V _ _ _ _ _ _ _ 67 [some (.ref b)] [] (h115.set b (.inr (14, [.ref (b + 1), .int 0, .int 0, .ref (b + 2), .ref (b + 3), .ref (b + 4), .ref (b + 5), .ref (b + 6), .ref (b + 7), .int 0, .int 0, .int 0, .int 0, .null, .null, .null, .int 0, .null, .null, .null, .null, .int 0, .null, .null, .null, .null, .int 0, .null, .null, .int 0, .null, .null, .null, .null, .null, .null, .null, .int 0, .null, .null, .null, .int 0, .int 0])))
  refine ab_gen (fun h129 e130 => ?_)
  have c131 : h129[b]? = some (.inr (14, [.ref (b + 1), .int 0, .int 0, .ref (b + 2), .ref (b + 3), .ref (b + 4), .ref (b + 5), .ref (b + 6), .ref (b + 7), .int 0, .int 0, .int 0, .int 0, .null, .null, .null, .int 0, .null, .null, .null, .null, .int 0, .null, .null, .null, .null, .int 0, .null, .null, .int 0, .null, .null, .null, .null, .null, .null, .null, .int 0, .null, .null, .null, .int 0, .int 0])) := ab_self e130 c120
  have c132 : h129[b+1]? = some (.inl (.byte, 6000, .inl (fun _ => 0))) := ab_other e130 (by omega) c121
  have c133 : h129[b+2]? = some (.inl (.int, 6002, .inl (fun _ => 0))) := ab_other e130 (by omega) c122
  have c134 : h129[b+3]? = some (.inl (.int, 6002, .inl (fun _ => 0))) := ab_other e130 (by omega) c123
  have c135 : h129[b+4]? = some (.inl (.int, 6002, .inl (fun _ => 0))) := ab_other e130 (by omega) c124
  have c136 : h129[b+5]? = some (.inl (.int, 6002, .inl (fun _ => 0))) := ab_other e130 (by omega) c125
  have c137 : h129[b+6]? = some (.inl (.boolean, 6002, .inl (fun _ => 0))) := ab_other e130 (by omega) c126
  have c138 : h129[b+7]? = some (.inl (.int, 6002, .inl (fun _ => 0))) := ab_other e130 (by omega) c119
  have l139 : h129.length = b + 8 := by rw [e130]; exact List.length_set.trans l128
  have fr140 : ab_fr (in_up b) h h129 := ab_fr_set fr127 e130 (by first | (show _ ∧ _; omega) | (show _ ∨ _; omega) | (show _ = _; omega) | (show _ ≤ _; omega))
  clear c120 c121 c122 c123 c124 c125 c126 c119 l128 fr127 e130
  try clear h115
  refine ab_aload_n d_MText_init_67 rfl rfl rfl ?_
  refine ab_bipush (v := 56) d_MText_init_68 (by decide) ?_
  refine ab_newaL (N := 56) l139 d_MText_init_70 rfl (k1 143 rfl rfl) tI (Or.inl rfl) (by decide) (by decide) (by decide) (by decide) (by decide) (fun h141 e142 e143 e144 => ?_)
  have c145 : h141[b + 8]? = some (.inl (.int, 56, .inl (fun _ => 0))) := e143
  have c146 : h141[b]? = some (.inr (14, [.ref (b + 1), .int 0, .int 0, .ref (b + 2), .ref (b + 3), .ref (b + 4), .ref (b + 5), .ref (b + 6), .ref (b + 7), .int 0, .int 0, .int 0, .int 0, .null, .null, .null, .int 0, .null, .null, .null, .null, .int 0, .null, .null, .null, .null, .int 0, .null, .null, .int 0, .null, .null, .null, .null, .null, .null, .null, .int 0, .null, .null, .null, .int 0, .int 0])) := (e144 _ (by omega)).trans c131
  have c147 : h141[b+1]? = some (.inl (.byte, 6000, .inl (fun _ => 0))) := (e144 _ (by omega)).trans c132
  have c148 : h141[b+2]? = some (.inl (.int, 6002, .inl (fun _ => 0))) := (e144 _ (by omega)).trans c133
  have c149 : h141[b+3]? = some (.inl (.int, 6002, .inl (fun _ => 0))) := (e144 _ (by omega)).trans c134
  have c150 : h141[b+4]? = some (.inl (.int, 6002, .inl (fun _ => 0))) := (e144 _ (by omega)).trans c135
  have c151 : h141[b+5]? = some (.inl (.int, 6002, .inl (fun _ => 0))) := (e144 _ (by omega)).trans c136
  have c152 : h141[b+6]? = some (.inl (.boolean, 6002, .inl (fun _ => 0))) := (e144 _ (by omega)).trans c137
  have c153 : h141[b+7]? = some (.inl (.int, 6002, .inl (fun _ => 0))) := (e144 _ (by omega)).trans c138
  have fr154 : ab_fr (in_up b) h h141 := ab_fr_new fr140 e144 e142 l139
  have l155 : h141.length = b + 9 := e142
  clear c131 c132 c133 c134 c135 c136 c137 c138 e142 e143 e144 l139 fr140
  try clear h129
  refine ab_putF (f := 13) d_MText_init_72 c146 rfl (by decide) (k8 177 rfl rfl) rfl rfl rfl rfl (fun _ => rfl) (fun _ => rfl) (Nat.le_of_ble_eq_true rfl) ?_
  show ab_V _ _ _ _ _ _ _ 75 [some (.ref b)] [] (h141.set b (.inr (14, [.ref (b + 1), .int 0, .int 0, .ref (b + 2), .ref (b + 3), .ref (b + 4), .ref (b + 5), .ref (b + 6), .ref (b + 7), .int 0, .int 0, .int 0, .int 0, .ref (b + 8), .null, .null, .int 0, .null, .null, .null, .null, .int 0, .null, .null, .null, .null, .int 0, .null, .null, .int 0, .null, .null, .null, .null, .null, .null, .null, .int 0, .null, .null, .null, .int 0, .int 0])))
  refine ab_gen (fun h156 e157 => ?_)
  have c158 : h156[b]? = some (.inr (14, [.ref (b + 1), .int 0, .int 0, .ref (b + 2), .ref (b + 3), .ref (b + 4), .ref (b + 5), .ref (b + 6), .ref (b + 7), .int 0, .int 0, .int 0, .int 0, .ref (b + 8), .null, .null, .int 0, .null, .null, .null, .null, .int 0, .null, .null, .null, .null, .int 0, .null, .null, .int 0, .null, .null, .null, .null, .null, .null, .null, .int 0, .null, .null, .null, .int 0, .int 0])) := ab_self e157 c146
  have c159 : h156[b+1]? = some (.inl (.byte, 6000, .inl (fun _ => 0))) := ab_other e157 (by omega) c147
  have c160 : h156[b+2]? = some (.inl (.int, 6002, .inl (fun _ => 0))) := ab_other e157 (by omega) c148
  have c161 : h156[b+3]? = some (.inl (.int, 6002, .inl (fun _ => 0))) := ab_other e157 (by omega) c149
  have c162 : h156[b+4]? = some (.inl (.int, 6002, .inl (fun _ => 0))) := ab_other e157 (by omega) c150
  have c163 : h156[b+5]? = some (.inl (.int, 6002, .inl (fun _ => 0))) := ab_other e157 (by omega) c151
  have c164 : h156[b+6]? = some (.inl (.boolean, 6002, .inl (fun _ => 0))) := ab_other e157 (by omega) c152
  have c165 : h156[b+7]? = some (.inl (.int, 6002, .inl (fun _ => 0))) := ab_other e157 (by omega) c153
  have c166 : h156[b+8]? = some (.inl (.int, 56, .inl (fun _ => 0))) := ab_other e157 (by omega) c145
  have l167 : h156.length = b + 9 := by rw [e157]; exact List.length_set.trans l155
  have fr168 : ab_fr (in_up b) h h156 := ab_fr_set fr154 e157 (by first | (show _ ∧ _; omega) | (show _ ∨ _; omega) | (show _ = _; omega) | (show _ ≤ _; omega))
  clear c146 c147 c148 c149 c150 c151 c152 c153 c145 l155 fr154 e157
  try clear h141
  refine ab_aload_n d_MText_init_75 rfl rfl rfl ?_
  refine ab_bipush (v := 56) d_MText_init_76 (by decide) ?_
  refine ab_newaL (N := 56) l167 d_MText_init_78 rfl (k1 143 rfl rfl) tI (Or.inl rfl) (by decide) (by decide) (by decide) (by decide) (by decide) (fun h169 e170 e171 e172 => ?_)
  have c173 : h169[b + 9]? = some (.inl (.int, 56, .inl (fun _ => 0))) := e171
  have c174 : h169[b]? = some (.inr (14, [.ref (b + 1), .int 0, .int 0, .ref (b + 2), .ref (b + 3), .ref (b + 4), .ref (b + 5), .ref (b + 6), .ref (b + 7), .int 0, .int 0, .int 0, .int 0, .ref (b + 8), .null, .null, .int 0, .null, .null, .null, .null, .int 0, .null, .null, .null, .null, .int 0, .null, .null, .int 0, .null, .null, .null, .null, .null, .null, .null, .int 0, .null, .null, .null, .int 0, .int 0])) := (e172 _ (by omega)).trans c158
  have c175 : h169[b+1]? = some (.inl (.byte, 6000, .inl (fun _ => 0))) := (e172 _ (by omega)).trans c159
  have c176 : h169[b+2]? = some (.inl (.int, 6002, .inl (fun _ => 0))) := (e172 _ (by omega)).trans c160
  have c177 : h169[b+3]? = some (.inl (.int, 6002, .inl (fun _ => 0))) := (e172 _ (by omega)).trans c161
  have c178 : h169[b+4]? = some (.inl (.int, 6002, .inl (fun _ => 0))) := (e172 _ (by omega)).trans c162
  have c179 : h169[b+5]? = some (.inl (.int, 6002, .inl (fun _ => 0))) := (e172 _ (by omega)).trans c163
  have c180 : h169[b+6]? = some (.inl (.boolean, 6002, .inl (fun _ => 0))) := (e172 _ (by omega)).trans c164
  have c181 : h169[b+7]? = some (.inl (.int, 6002, .inl (fun _ => 0))) := (e172 _ (by omega)).trans c165
  have c182 : h169[b+8]? = some (.inl (.int, 56, .inl (fun _ => 0))) := (e172 _ (by omega)).trans c166
  have fr183 : ab_fr (in_up b) h h169 := ab_fr_new fr168 e172 e170 l167
  have l184 : h169.length = b + 10 := e170
  clear c158 c159 c160 c161 c162 c163 c164 c165 c166 e170 e171 e172 l167 fr168
  try clear h156
  refine ab_putF (f := 14) d_MText_init_80 c174 rfl (by decide) (k8 178 rfl rfl) rfl rfl rfl rfl (fun _ => rfl) (fun _ => rfl) (Nat.le_of_ble_eq_true rfl) ?_
  show ab_V _ _ _ _ _ _ _ 83 [some (.ref b)] [] (h169.set b (.inr (14, [.ref (b + 1), .int 0, .int 0, .ref (b + 2), .ref (b + 3), .ref (b + 4), .ref (b + 5), .ref (b + 6), .ref (b + 7), .int 0, .int 0, .int 0, .int 0, .ref (b + 8), .ref (b + 9), .null, .int 0, .null, .null, .null, .null, .int 0, .null, .null, .null, .null, .int 0, .null, .null, .int 0, .null, .null, .null, .null, .null, .null, .null, .int 0, .null, .null, .null, .int 0, .int 0])))
  refine ab_gen (fun h185 e186 => ?_)
  have c187 : h185[b]? = some (.inr (14, [.ref (b + 1), .int 0, .int 0, .ref (b + 2), .ref (b + 3), .ref (b + 4), .ref (b + 5), .ref (b + 6), .ref (b + 7), .int 0, .int 0, .int 0, .int 0, .ref (b + 8), .ref (b + 9), .null, .int 0, .null, .null, .null, .null, .int 0, .null, .null, .null, .null, .int 0, .null, .null, .int 0, .null, .null, .null, .null, .null, .null, .null, .int 0, .null, .null, .null, .int 0, .int 0])) := ab_self e186 c174
  have c188 : h185[b+1]? = some (.inl (.byte, 6000, .inl (fun _ => 0))) := ab_other e186 (by omega) c175
  have c189 : h185[b+2]? = some (.inl (.int, 6002, .inl (fun _ => 0))) := ab_other e186 (by omega) c176
  have c190 : h185[b+3]? = some (.inl (.int, 6002, .inl (fun _ => 0))) := ab_other e186 (by omega) c177
  have c191 : h185[b+4]? = some (.inl (.int, 6002, .inl (fun _ => 0))) := ab_other e186 (by omega) c178
  have c192 : h185[b+5]? = some (.inl (.int, 6002, .inl (fun _ => 0))) := ab_other e186 (by omega) c179
  have c193 : h185[b+6]? = some (.inl (.boolean, 6002, .inl (fun _ => 0))) := ab_other e186 (by omega) c180
  have c194 : h185[b+7]? = some (.inl (.int, 6002, .inl (fun _ => 0))) := ab_other e186 (by omega) c181
  have c195 : h185[b+8]? = some (.inl (.int, 56, .inl (fun _ => 0))) := ab_other e186 (by omega) c182
  have c196 : h185[b+9]? = some (.inl (.int, 56, .inl (fun _ => 0))) := ab_other e186 (by omega) c173
  have l197 : h185.length = b + 10 := by rw [e186]; exact List.length_set.trans l184
  have fr198 : ab_fr (in_up b) h h185 := ab_fr_set fr183 e186 (by first | (show _ ∧ _; omega) | (show _ ∨ _; omega) | (show _ = _; omega) | (show _ ≤ _; omega))
  clear c174 c175 c176 c177 c178 c179 c180 c181 c182 c173 l184 fr183 e186
  try clear h169
  refine ab_aload_n d_MText_init_83 rfl rfl rfl ?_
  refine ab_bipush (v := 56) d_MText_init_84 (by decide) ?_
  refine ab_newaL (N := 56) l197 d_MText_init_86 rfl (k1 143 rfl rfl) tI (Or.inl rfl) (by decide) (by decide) (by decide) (by decide) (by decide) (fun h199 e200 e201 e202 => ?_)
  have c203 : h199[b + 10]? = some (.inl (.int, 56, .inl (fun _ => 0))) := e201
  have c204 : h199[b]? = some (.inr (14, [.ref (b + 1), .int 0, .int 0, .ref (b + 2), .ref (b + 3), .ref (b + 4), .ref (b + 5), .ref (b + 6), .ref (b + 7), .int 0, .int 0, .int 0, .int 0, .ref (b + 8), .ref (b + 9), .null, .int 0, .null, .null, .null, .null, .int 0, .null, .null, .null, .null, .int 0, .null, .null, .int 0, .null, .null, .null, .null, .null, .null, .null, .int 0, .null, .null, .null, .int 0, .int 0])) := (e202 _ (by omega)).trans c187
  have c205 : h199[b+1]? = some (.inl (.byte, 6000, .inl (fun _ => 0))) := (e202 _ (by omega)).trans c188
  have c206 : h199[b+2]? = some (.inl (.int, 6002, .inl (fun _ => 0))) := (e202 _ (by omega)).trans c189
  have c207 : h199[b+3]? = some (.inl (.int, 6002, .inl (fun _ => 0))) := (e202 _ (by omega)).trans c190
  have c208 : h199[b+4]? = some (.inl (.int, 6002, .inl (fun _ => 0))) := (e202 _ (by omega)).trans c191
  have c209 : h199[b+5]? = some (.inl (.int, 6002, .inl (fun _ => 0))) := (e202 _ (by omega)).trans c192
  have c210 : h199[b+6]? = some (.inl (.boolean, 6002, .inl (fun _ => 0))) := (e202 _ (by omega)).trans c193
  have c211 : h199[b+7]? = some (.inl (.int, 6002, .inl (fun _ => 0))) := (e202 _ (by omega)).trans c194
  have c212 : h199[b+8]? = some (.inl (.int, 56, .inl (fun _ => 0))) := (e202 _ (by omega)).trans c195
  have c213 : h199[b+9]? = some (.inl (.int, 56, .inl (fun _ => 0))) := (e202 _ (by omega)).trans c196
  have fr214 : ab_fr (in_up b) h h199 := ab_fr_new fr198 e202 e200 l197
  have l215 : h199.length = b + 11 := e200
  clear c187 c188 c189 c190 c191 c192 c193 c194 c195 c196 e200 e201 e202 l197 fr198
  try clear h185
  refine ab_putF (f := 15) d_MText_init_88 c204 rfl (by decide) (k8 179 rfl rfl) rfl rfl rfl rfl (fun _ => rfl) (fun _ => rfl) (Nat.le_of_ble_eq_true rfl) ?_
  show ab_V _ _ _ _ _ _ _ 91 [some (.ref b)] [] (h199.set b (.inr (14, [.ref (b + 1), .int 0, .int 0, .ref (b + 2), .ref (b + 3), .ref (b + 4), .ref (b + 5), .ref (b + 6), .ref (b + 7), .int 0, .int 0, .int 0, .int 0, .ref (b + 8), .ref (b + 9), .ref (b + 10), .int 0, .null, .null, .null, .null, .int 0, .null, .null, .null, .null, .int 0, .null, .null, .int 0, .null, .null, .null, .null, .null, .null, .null, .int 0, .null, .null, .null, .int 0, .int 0])))
  refine ab_gen (fun h216 e217 => ?_)
  have c218 : h216[b]? = some (.inr (14, [.ref (b + 1), .int 0, .int 0, .ref (b + 2), .ref (b + 3), .ref (b + 4), .ref (b + 5), .ref (b + 6), .ref (b + 7), .int 0, .int 0, .int 0, .int 0, .ref (b + 8), .ref (b + 9), .ref (b + 10), .int 0, .null, .null, .null, .null, .int 0, .null, .null, .null, .null, .int 0, .null, .null, .int 0, .null, .null, .null, .null, .null, .null, .null, .int 0, .null, .null, .null, .int 0, .int 0])) := ab_self e217 c204
  have c219 : h216[b+1]? = some (.inl (.byte, 6000, .inl (fun _ => 0))) := ab_other e217 (by omega) c205
  have c220 : h216[b+2]? = some (.inl (.int, 6002, .inl (fun _ => 0))) := ab_other e217 (by omega) c206
  have c221 : h216[b+3]? = some (.inl (.int, 6002, .inl (fun _ => 0))) := ab_other e217 (by omega) c207
  have c222 : h216[b+4]? = some (.inl (.int, 6002, .inl (fun _ => 0))) := ab_other e217 (by omega) c208
  have c223 : h216[b+5]? = some (.inl (.int, 6002, .inl (fun _ => 0))) := ab_other e217 (by omega) c209
  have c224 : h216[b+6]? = some (.inl (.boolean, 6002, .inl (fun _ => 0))) := ab_other e217 (by omega) c210
  have c225 : h216[b+7]? = some (.inl (.int, 6002, .inl (fun _ => 0))) := ab_other e217 (by omega) c211
  have c226 : h216[b+8]? = some (.inl (.int, 56, .inl (fun _ => 0))) := ab_other e217 (by omega) c212
  have c227 : h216[b+9]? = some (.inl (.int, 56, .inl (fun _ => 0))) := ab_other e217 (by omega) c213
  have c228 : h216[b+10]? = some (.inl (.int, 56, .inl (fun _ => 0))) := ab_other e217 (by omega) c203
  have l229 : h216.length = b + 11 := by rw [e217]; exact List.length_set.trans l215
  have fr230 : ab_fr (in_up b) h h216 := ab_fr_set fr214 e217 (by first | (show _ ∧ _; omega) | (show _ ∨ _; omega) | (show _ = _; omega) | (show _ ≤ _; omega))
  clear c204 c205 c206 c207 c208 c209 c210 c211 c212 c213 c203 l215 fr214 e217
  try clear h199
  refine ab_aload_n d_MText_init_91 rfl rfl rfl ?_
  refine ab_bipush (v := 16) d_MText_init_92 (by decide) ?_
  refine ab_newaL (N := 16) l229 d_MText_init_94 rfl (k1 143 rfl rfl) tI (Or.inl rfl) (by decide) (by decide) (by decide) (by decide) (by decide) (fun h231 e232 e233 e234 => ?_)
  have c235 : h231[b + 11]? = some (.inl (.int, 16, .inl (fun _ => 0))) := e233
  have c236 : h231[b]? = some (.inr (14, [.ref (b + 1), .int 0, .int 0, .ref (b + 2), .ref (b + 3), .ref (b + 4), .ref (b + 5), .ref (b + 6), .ref (b + 7), .int 0, .int 0, .int 0, .int 0, .ref (b + 8), .ref (b + 9), .ref (b + 10), .int 0, .null, .null, .null, .null, .int 0, .null, .null, .null, .null, .int 0, .null, .null, .int 0, .null, .null, .null, .null, .null, .null, .null, .int 0, .null, .null, .null, .int 0, .int 0])) := (e234 _ (by omega)).trans c218
  have c237 : h231[b+1]? = some (.inl (.byte, 6000, .inl (fun _ => 0))) := (e234 _ (by omega)).trans c219
  have c238 : h231[b+2]? = some (.inl (.int, 6002, .inl (fun _ => 0))) := (e234 _ (by omega)).trans c220
  have c239 : h231[b+3]? = some (.inl (.int, 6002, .inl (fun _ => 0))) := (e234 _ (by omega)).trans c221
  have c240 : h231[b+4]? = some (.inl (.int, 6002, .inl (fun _ => 0))) := (e234 _ (by omega)).trans c222
  have c241 : h231[b+5]? = some (.inl (.int, 6002, .inl (fun _ => 0))) := (e234 _ (by omega)).trans c223
  have c242 : h231[b+6]? = some (.inl (.boolean, 6002, .inl (fun _ => 0))) := (e234 _ (by omega)).trans c224
  have c243 : h231[b+7]? = some (.inl (.int, 6002, .inl (fun _ => 0))) := (e234 _ (by omega)).trans c225
  have c244 : h231[b+8]? = some (.inl (.int, 56, .inl (fun _ => 0))) := (e234 _ (by omega)).trans c226
  have c245 : h231[b+9]? = some (.inl (.int, 56, .inl (fun _ => 0))) := (e234 _ (by omega)).trans c227
  have c246 : h231[b+10]? = some (.inl (.int, 56, .inl (fun _ => 0))) := (e234 _ (by omega)).trans c228
  have fr247 : ab_fr (in_up b) h h231 := ab_fr_new fr230 e234 e232 l229
  have l248 : h231.length = b + 12 := e232
  clear c218 c219 c220 c221 c222 c223 c224 c225 c226 c227 c228 e232 e233 e234 l229 fr230
  try clear h216
  refine ab_putF (f := 17) d_MText_init_96 c236 rfl (by decide) (k8 182 rfl rfl) rfl rfl rfl rfl (fun _ => rfl) (fun _ => rfl) (Nat.le_of_ble_eq_true rfl) ?_
  show ab_V _ _ _ _ _ _ _ 99 [some (.ref b)] [] (h231.set b (.inr (14, [.ref (b + 1), .int 0, .int 0, .ref (b + 2), .ref (b + 3), .ref (b + 4), .ref (b + 5), .ref (b + 6), .ref (b + 7), .int 0, .int 0, .int 0, .int 0, .ref (b + 8), .ref (b + 9), .ref (b + 10), .int 0, .ref (b + 11), .null, .null, .null, .int 0, .null, .null, .null, .null, .int 0, .null, .null, .int 0, .null, .null, .null, .null, .null, .null, .null, .int 0, .null, .null, .null, .int 0, .int 0])))
  refine ab_gen (fun h249 e250 => ?_)
  have c251 : h249[b]? = some (.inr (14, [.ref (b + 1), .int 0, .int 0, .ref (b + 2), .ref (b + 3), .ref (b + 4), .ref (b + 5), .ref (b + 6), .ref (b + 7), .int 0, .int 0, .int 0, .int 0, .ref (b + 8), .ref (b + 9), .ref (b + 10), .int 0, .ref (b + 11), .null, .null, .null, .int 0, .null, .null, .null, .null, .int 0, .null, .null, .int 0, .null, .null, .null, .null, .null, .null, .null, .int 0, .null, .null, .null, .int 0, .int 0])) := ab_self e250 c236
  have c252 : h249[b+1]? = some (.inl (.byte, 6000, .inl (fun _ => 0))) := ab_other e250 (by omega) c237
  have c253 : h249[b+2]? = some (.inl (.int, 6002, .inl (fun _ => 0))) := ab_other e250 (by omega) c238
  have c254 : h249[b+3]? = some (.inl (.int, 6002, .inl (fun _ => 0))) := ab_other e250 (by omega) c239
  have c255 : h249[b+4]? = some (.inl (.int, 6002, .inl (fun _ => 0))) := ab_other e250 (by omega) c240
  have c256 : h249[b+5]? = some (.inl (.int, 6002, .inl (fun _ => 0))) := ab_other e250 (by omega) c241
  have c257 : h249[b+6]? = some (.inl (.boolean, 6002, .inl (fun _ => 0))) := ab_other e250 (by omega) c242
  have c258 : h249[b+7]? = some (.inl (.int, 6002, .inl (fun _ => 0))) := ab_other e250 (by omega) c243
  have c259 : h249[b+8]? = some (.inl (.int, 56, .inl (fun _ => 0))) := ab_other e250 (by omega) c244
  have c260 : h249[b+9]? = some (.inl (.int, 56, .inl (fun _ => 0))) := ab_other e250 (by omega) c245
  have c261 : h249[b+10]? = some (.inl (.int, 56, .inl (fun _ => 0))) := ab_other e250 (by omega) c246
  have c262 : h249[b+11]? = some (.inl (.int, 16, .inl (fun _ => 0))) := ab_other e250 (by omega) c235
  have l263 : h249.length = b + 12 := by rw [e250]; exact List.length_set.trans l248
  have fr264 : ab_fr (in_up b) h h249 := ab_fr_set fr247 e250 (by first | (show _ ∧ _; omega) | (show _ ∨ _; omega) | (show _ = _; omega) | (show _ ≤ _; omega))
  clear c236 c237 c238 c239 c240 c241 c242 c243 c244 c245 c246 c235 l248 fr247 e250
  try clear h231
  refine ab_aload_n d_MText_init_99 rfl rfl rfl ?_
  refine ab_bipush (v := 17) d_MText_init_100 (by decide) ?_
  refine ab_newaL (N := 17) l263 d_MText_init_102 rfl (k1 143 rfl rfl) tI (Or.inl rfl) (by decide) (by decide) (by decide) (by decide) (by decide) (fun h265 e266 e267 e268 => ?_)
  have c269 : h265[b + 12]? = some (.inl (.int, 17, .inl (fun _ => 0))) := e267
  have c270 : h265[b]? = some (.inr (14, [.ref (b + 1), .int 0, .int 0, .ref (b + 2), .ref (b + 3), .ref (b + 4), .ref (b + 5), .ref (b + 6), .ref (b + 7), .int 0, .int 0, .int 0, .int 0, .ref (b + 8), .ref (b + 9), .ref (b + 10), .int 0, .ref (b + 11), .null, .null, .null, .int 0, .null, .null, .null, .null, .int 0, .null, .null, .int 0, .null, .null, .null, .null, .null, .null, .null, .int 0, .null, .null, .null, .int 0, .int 0])) := (e268 _ (by omega)).trans c251
  have c271 : h265[b+1]? = some (.inl (.byte, 6000, .inl (fun _ => 0))) := (e268 _ (by omega)).trans c252
  have c272 : h265[b+2]? = some (.inl (.int, 6002, .inl (fun _ => 0))) := (e268 _ (by omega)).trans c253
  have c273 : h265[b+3]? = some (.inl (.int, 6002, .inl (fun _ => 0))) := (e268 _ (by omega)).trans c254
  have c274 : h265[b+4]? = some (.inl (.int, 6002, .inl (fun _ => 0))) := (e268 _ (by omega)).trans c255
  have c275 : h265[b+5]? = some (.inl (.int, 6002, .inl (fun _ => 0))) := (e268 _ (by omega)).trans c256
  have c276 : h265[b+6]? = some (.inl (.boolean, 6002, .inl (fun _ => 0))) := (e268 _ (by omega)).trans c257
  have c277 : h265[b+7]? = some (.inl (.int, 6002, .inl (fun _ => 0))) := (e268 _ (by omega)).trans c258
  have c278 : h265[b+8]? = some (.inl (.int, 56, .inl (fun _ => 0))) := (e268 _ (by omega)).trans c259
  have c279 : h265[b+9]? = some (.inl (.int, 56, .inl (fun _ => 0))) := (e268 _ (by omega)).trans c260
  have c280 : h265[b+10]? = some (.inl (.int, 56, .inl (fun _ => 0))) := (e268 _ (by omega)).trans c261
  have c281 : h265[b+11]? = some (.inl (.int, 16, .inl (fun _ => 0))) := (e268 _ (by omega)).trans c262
  have fr282 : ab_fr (in_up b) h h265 := ab_fr_new fr264 e268 e266 l263
  have l283 : h265.length = b + 13 := e266
  clear c251 c252 c253 c254 c255 c256 c257 c258 c259 c260 c261 c262 e266 e267 e268 l263 fr264
  try clear h249
  refine ab_putF (f := 18) d_MText_init_104 c270 rfl (by decide) (k8 184 rfl rfl) rfl rfl rfl rfl (fun _ => rfl) (fun _ => rfl) (Nat.le_of_ble_eq_true rfl) ?_
  show ab_V _ _ _ _ _ _ _ 107 [some (.ref b)] [] (h265.set b (.inr (14, [.ref (b + 1), .int 0, .int 0, .ref (b + 2), .ref (b + 3), .ref (b + 4), .ref (b + 5), .ref (b + 6), .ref (b + 7), .int 0, .int 0, .int 0, .int 0, .ref (b + 8), .ref (b + 9), .ref (b + 10), .int 0, .ref (b + 11), .ref (b + 12), .null, .null, .int 0, .null, .null, .null, .null, .int 0, .null, .null, .int 0, .null, .null, .null, .null, .null, .null, .null, .int 0, .null, .null, .null, .int 0, .int 0])))
  refine ab_gen (fun h284 e285 => ?_)
  have c286 : h284[b]? = some (.inr (14, [.ref (b + 1), .int 0, .int 0, .ref (b + 2), .ref (b + 3), .ref (b + 4), .ref (b + 5), .ref (b + 6), .ref (b + 7), .int 0, .int 0, .int 0, .int 0, .ref (b + 8), .ref (b + 9), .ref (b + 10), .int 0, .ref (b + 11), .ref (b + 12), .null, .null, .int 0, .null, .null, .null, .null, .int 0, .null, .null, .int 0, .null, .null, .null, .null, .null, .null, .null, .int 0, .null, .null, .null, .int 0, .int 0])) := ab_self e285 c270
  have c287 : h284[b+1]? = some (.inl (.byte, 6000, .inl (fun _ => 0))) := ab_other e285 (by omega) c271
  have c288 : h284[b+2]? = some (.inl (.int, 6002, .inl (fun _ => 0))) := ab_other e285 (by omega) c272
  have c289 : h284[b+3]? = some (.inl (.int, 6002, .inl (fun _ => 0))) := ab_other e285 (by omega) c273
  have c290 : h284[b+4]? = some (.inl (.int, 6002, .inl (fun _ => 0))) := ab_other e285 (by omega) c274
  have c291 : h284[b+5]? = some (.inl (.int, 6002, .inl (fun _ => 0))) := ab_other e285 (by omega) c275
  have c292 : h284[b+6]? = some (.inl (.boolean, 6002, .inl (fun _ => 0))) := ab_other e285 (by omega) c276
  have c293 : h284[b+7]? = some (.inl (.int, 6002, .inl (fun _ => 0))) := ab_other e285 (by omega) c277
  have c294 : h284[b+8]? = some (.inl (.int, 56, .inl (fun _ => 0))) := ab_other e285 (by omega) c278
  have c295 : h284[b+9]? = some (.inl (.int, 56, .inl (fun _ => 0))) := ab_other e285 (by omega) c279
  have c296 : h284[b+10]? = some (.inl (.int, 56, .inl (fun _ => 0))) := ab_other e285 (by omega) c280
  have c297 : h284[b+11]? = some (.inl (.int, 16, .inl (fun _ => 0))) := ab_other e285 (by omega) c281
  have c298 : h284[b+12]? = some (.inl (.int, 17, .inl (fun _ => 0))) := ab_other e285 (by omega) c269
  have l299 : h284.length = b + 13 := by rw [e285]; exact List.length_set.trans l283
  have fr300 : ab_fr (in_up b) h h284 := ab_fr_set fr282 e285 (by first | (show _ ∧ _; omega) | (show _ ∨ _; omega) | (show _ = _; omega) | (show _ ≤ _; omega))
  clear c270 c271 c272 c273 c274 c275 c276 c277 c278 c279 c280 c281 c269 l283 fr282 e285
  try clear h265
  refine ab_aload_n d_MText_init_107 rfl rfl rfl ?_
  refine ab_bipush (v := 48) d_MText_init_108 (by decide) ?_
  refine ab_newaL (N := 48) l299 d_MText_init_110 rfl (k1 143 rfl rfl) tI (Or.inl rfl) (by decide) (by decide) (by decide) (by decide) (by decide) (fun h301 e302 e303 e304 => ?_)
  have c305 : h301[b + 13]? = some (.inl (.int, 48, .inl (fun _ => 0))) := e303
  have c306 : h301[b]? = some (.inr (14, [.ref (b + 1), .int 0, .int 0, .ref (b + 2), .ref (b + 3), .ref (b + 4), .ref (b + 5), .ref (b + 6), .ref (b + 7), .int 0, .int 0, .int 0, .int 0, .ref (b + 8), .ref (b + 9), .ref (b + 10), .int 0, .ref (b + 11), .ref (b + 12), .null, .null, .int 0, .null, .null, .null, .null, .int 0, .null, .null, .int 0, .null, .null, .null, .null, .null, .null, .null, .int 0, .null, .null, .null, .int 0, .int 0])) := (e304 _ (by omega)).trans c286
  have c307 : h301[b+1]? = some (.inl (.byte, 6000, .inl (fun _ => 0))) := (e304 _ (by omega)).trans c287
  have c308 : h301[b+2]? = some (.inl (.int, 6002, .inl (fun _ => 0))) := (e304 _ (by omega)).trans c288
  have c309 : h301[b+3]? = some (.inl (.int, 6002, .inl (fun _ => 0))) := (e304 _ (by omega)).trans c289
  have c310 : h301[b+4]? = some (.inl (.int, 6002, .inl (fun _ => 0))) := (e304 _ (by omega)).trans c290
  have c311 : h301[b+5]? = some (.inl (.int, 6002, .inl (fun _ => 0))) := (e304 _ (by omega)).trans c291
  have c312 : h301[b+6]? = some (.inl (.boolean, 6002, .inl (fun _ => 0))) := (e304 _ (by omega)).trans c292
  have c313 : h301[b+7]? = some (.inl (.int, 6002, .inl (fun _ => 0))) := (e304 _ (by omega)).trans c293
  have c314 : h301[b+8]? = some (.inl (.int, 56, .inl (fun _ => 0))) := (e304 _ (by omega)).trans c294
  have c315 : h301[b+9]? = some (.inl (.int, 56, .inl (fun _ => 0))) := (e304 _ (by omega)).trans c295
  have c316 : h301[b+10]? = some (.inl (.int, 56, .inl (fun _ => 0))) := (e304 _ (by omega)).trans c296
  have c317 : h301[b+11]? = some (.inl (.int, 16, .inl (fun _ => 0))) := (e304 _ (by omega)).trans c297
  have c318 : h301[b+12]? = some (.inl (.int, 17, .inl (fun _ => 0))) := (e304 _ (by omega)).trans c298
  have fr319 : ab_fr (in_up b) h h301 := ab_fr_new fr300 e304 e302 l299
  have l320 : h301.length = b + 14 := e302
  clear c286 c287 c288 c289 c290 c291 c292 c293 c294 c295 c296 c297 c298 e302 e303 e304 l299 fr300
  try clear h284
  refine ab_putF (f := 19) d_MText_init_112 c306 rfl (by decide) (k8 188 rfl rfl) rfl rfl rfl rfl (fun _ => rfl) (fun _ => rfl) (Nat.le_of_ble_eq_true rfl) ?_
  show ab_V _ _ _ _ _ _ _ 115 [some (.ref b)] [] (h301.set b (.inr (14, [.ref (b + 1), .int 0, .int 0, .ref (b + 2), .ref (b + 3), .ref (b + 4), .ref (b + 5), .ref (b + 6), .ref (b + 7), .int 0, .int 0, .int 0, .int 0, .ref (b + 8), .ref (b + 9), .ref (b + 10), .int 0, .ref (b + 11), .ref (b + 12), .ref (b + 13), .null, .int 0, .null, .null, .null, .null, .int 0, .null, .null, .int 0, .null, .null, .null, .null, .null, .null, .null, .int 0, .null, .null, .null, .int 0, .int 0])))
  refine ab_gen (fun h321 e322 => ?_)
  have c323 : h321[b]? = some (.inr (14, [.ref (b + 1), .int 0, .int 0, .ref (b + 2), .ref (b + 3), .ref (b + 4), .ref (b + 5), .ref (b + 6), .ref (b + 7), .int 0, .int 0, .int 0, .int 0, .ref (b + 8), .ref (b + 9), .ref (b + 10), .int 0, .ref (b + 11), .ref (b + 12), .ref (b + 13), .null, .int 0, .null, .null, .null, .null, .int 0, .null, .null, .int 0, .null, .null, .null, .null, .null, .null, .null, .int 0, .null, .null, .null, .int 0, .int 0])) := ab_self e322 c306
  have c324 : h321[b+1]? = some (.inl (.byte, 6000, .inl (fun _ => 0))) := ab_other e322 (by omega) c307
  have c325 : h321[b+2]? = some (.inl (.int, 6002, .inl (fun _ => 0))) := ab_other e322 (by omega) c308
  have c326 : h321[b+3]? = some (.inl (.int, 6002, .inl (fun _ => 0))) := ab_other e322 (by omega) c309
  have c327 : h321[b+4]? = some (.inl (.int, 6002, .inl (fun _ => 0))) := ab_other e322 (by omega) c310
  have c328 : h321[b+5]? = some (.inl (.int, 6002, .inl (fun _ => 0))) := ab_other e322 (by omega) c311
  have c329 : h321[b+6]? = some (.inl (.boolean, 6002, .inl (fun _ => 0))) := ab_other e322 (by omega) c312
  have c330 : h321[b+7]? = some (.inl (.int, 6002, .inl (fun _ => 0))) := ab_other e322 (by omega) c313
  have c331 : h321[b+8]? = some (.inl (.int, 56, .inl (fun _ => 0))) := ab_other e322 (by omega) c314
  have c332 : h321[b+9]? = some (.inl (.int, 56, .inl (fun _ => 0))) := ab_other e322 (by omega) c315
  have c333 : h321[b+10]? = some (.inl (.int, 56, .inl (fun _ => 0))) := ab_other e322 (by omega) c316
  have c334 : h321[b+11]? = some (.inl (.int, 16, .inl (fun _ => 0))) := ab_other e322 (by omega) c317
  have c335 : h321[b+12]? = some (.inl (.int, 17, .inl (fun _ => 0))) := ab_other e322 (by omega) c318
  have c336 : h321[b+13]? = some (.inl (.int, 48, .inl (fun _ => 0))) := ab_other e322 (by omega) c305
  have l337 : h321.length = b + 14 := by rw [e322]; exact List.length_set.trans l320
  have fr338 : ab_fr (in_up b) h h321 := ab_fr_set fr319 e322 (by first | (show _ ∧ _; omega) | (show _ ∨ _; omega) | (show _ = _; omega) | (show _ ≤ _; omega))
  clear c306 c307 c308 c309 c310 c311 c312 c313 c314 c315 c316 c317 c318 c305 l320 fr319 e322
  try clear h301
  refine ab_aload_n d_MText_init_115 rfl rfl rfl ?_
  refine ab_bipush (v := 48) d_MText_init_116 (by decide) ?_
  refine ab_newaL (N := 48) l337 d_MText_init_118 rfl (k1 143 rfl rfl) tI (Or.inl rfl) (by decide) (by decide) (by decide) (by decide) (by decide) (fun h339 e340 e341 e342 => ?_)
  have c343 : h339[b + 14]? = some (.inl (.int, 48, .inl (fun _ => 0))) := e341
  have c344 : h339[b]? = some (.inr (14, [.ref (b + 1), .int 0, .int 0, .ref (b + 2), .ref (b + 3), .ref (b + 4), .ref (b + 5), .ref (b + 6), .ref (b + 7), .int 0, .int 0, .int 0, .int 0, .ref (b + 8), .ref (b + 9), .ref (b + 10), .int 0, .ref (b + 11), .ref (b + 12), .ref (b + 13), .null, .int 0, .null, .null, .null, .null, .int 0, .null, .null, .int 0, .null, .null, .null, .null, .null, .null, .null, .int 0, .null, .null, .null, .int 0, .int 0])) := (e342 _ (by omega)).trans c323
  have c345 : h339[b+1]? = some (.inl (.byte, 6000, .inl (fun _ => 0))) := (e342 _ (by omega)).trans c324
  have c346 : h339[b+2]? = some (.inl (.int, 6002, .inl (fun _ => 0))) := (e342 _ (by omega)).trans c325
  have c347 : h339[b+3]? = some (.inl (.int, 6002, .inl (fun _ => 0))) := (e342 _ (by omega)).trans c326
  have c348 : h339[b+4]? = some (.inl (.int, 6002, .inl (fun _ => 0))) := (e342 _ (by omega)).trans c327
  have c349 : h339[b+5]? = some (.inl (.int, 6002, .inl (fun _ => 0))) := (e342 _ (by omega)).trans c328
  have c350 : h339[b+6]? = some (.inl (.boolean, 6002, .inl (fun _ => 0))) := (e342 _ (by omega)).trans c329
  have c351 : h339[b+7]? = some (.inl (.int, 6002, .inl (fun _ => 0))) := (e342 _ (by omega)).trans c330
  have c352 : h339[b+8]? = some (.inl (.int, 56, .inl (fun _ => 0))) := (e342 _ (by omega)).trans c331
  have c353 : h339[b+9]? = some (.inl (.int, 56, .inl (fun _ => 0))) := (e342 _ (by omega)).trans c332
  have c354 : h339[b+10]? = some (.inl (.int, 56, .inl (fun _ => 0))) := (e342 _ (by omega)).trans c333
  have c355 : h339[b+11]? = some (.inl (.int, 16, .inl (fun _ => 0))) := (e342 _ (by omega)).trans c334
  have c356 : h339[b+12]? = some (.inl (.int, 17, .inl (fun _ => 0))) := (e342 _ (by omega)).trans c335
  have c357 : h339[b+13]? = some (.inl (.int, 48, .inl (fun _ => 0))) := (e342 _ (by omega)).trans c336
  have fr358 : ab_fr (in_up b) h h339 := ab_fr_new fr338 e342 e340 l337
  have l359 : h339.length = b + 15 := e340
  clear c323 c324 c325 c326 c327 c328 c329 c330 c331 c332 c333 c334 c335 c336 e340 e341 e342 l337 fr338
  try clear h321
  refine ab_putF (f := 20) d_MText_init_120 c344 rfl (by decide) (k8 192 rfl rfl) rfl rfl rfl rfl (fun _ => rfl) (fun _ => rfl) (Nat.le_of_ble_eq_true rfl) ?_
  show ab_V _ _ _ _ _ _ _ 123 [some (.ref b)] [] (h339.set b (.inr (14, [.ref (b + 1), .int 0, .int 0, .ref (b + 2), .ref (b + 3), .ref (b + 4), .ref (b + 5), .ref (b + 6), .ref (b + 7), .int 0, .int 0, .int 0, .int 0, .ref (b + 8), .ref (b + 9), .ref (b + 10), .int 0, .ref (b + 11), .ref (b + 12), .ref (b + 13), .ref (b + 14), .int 0, .null, .null, .null, .null, .int 0, .null, .null, .int 0, .null, .null, .null, .null, .null, .null, .null, .int 0, .null, .null, .null, .int 0, .int 0])))
  refine ab_gen (fun h360 e361 => ?_)
  have c362 : h360[b]? = some (.inr (14, [.ref (b + 1), .int 0, .int 0, .ref (b + 2), .ref (b + 3), .ref (b + 4), .ref (b + 5), .ref (b + 6), .ref (b + 7), .int 0, .int 0, .int 0, .int 0, .ref (b + 8), .ref (b + 9), .ref (b + 10), .int 0, .ref (b + 11), .ref (b + 12), .ref (b + 13), .ref (b + 14), .int 0, .null, .null, .null, .null, .int 0, .null, .null, .int 0, .null, .null, .null, .null, .null, .null, .null, .int 0, .null, .null, .null, .int 0, .int 0])) := ab_self e361 c344
  have c363 : h360[b+1]? = some (.inl (.byte, 6000, .inl (fun _ => 0))) := ab_other e361 (by omega) c345
  have c364 : h360[b+2]? = some (.inl (.int, 6002, .inl (fun _ => 0))) := ab_other e361 (by omega) c346
  have c365 : h360[b+3]? = some (.inl (.int, 6002, .inl (fun _ => 0))) := ab_other e361 (by omega) c347
  have c366 : h360[b+4]? = some (.inl (.int, 6002, .inl (fun _ => 0))) := ab_other e361 (by omega) c348
  have c367 : h360[b+5]? = some (.inl (.int, 6002, .inl (fun _ => 0))) := ab_other e361 (by omega) c349
  have c368 : h360[b+6]? = some (.inl (.boolean, 6002, .inl (fun _ => 0))) := ab_other e361 (by omega) c350
  have c369 : h360[b+7]? = some (.inl (.int, 6002, .inl (fun _ => 0))) := ab_other e361 (by omega) c351
  have c370 : h360[b+8]? = some (.inl (.int, 56, .inl (fun _ => 0))) := ab_other e361 (by omega) c352
  have c371 : h360[b+9]? = some (.inl (.int, 56, .inl (fun _ => 0))) := ab_other e361 (by omega) c353
  have c372 : h360[b+10]? = some (.inl (.int, 56, .inl (fun _ => 0))) := ab_other e361 (by omega) c354
  have c373 : h360[b+11]? = some (.inl (.int, 16, .inl (fun _ => 0))) := ab_other e361 (by omega) c355
  have c374 : h360[b+12]? = some (.inl (.int, 17, .inl (fun _ => 0))) := ab_other e361 (by omega) c356
  have c375 : h360[b+13]? = some (.inl (.int, 48, .inl (fun _ => 0))) := ab_other e361 (by omega) c357
  have c376 : h360[b+14]? = some (.inl (.int, 48, .inl (fun _ => 0))) := ab_other e361 (by omega) c343
  have l377 : h360.length = b + 15 := by rw [e361]; exact List.length_set.trans l359
  have fr378 : ab_fr (in_up b) h h360 := ab_fr_set fr358 e361 (by first | (show _ ∧ _; omega) | (show _ ∨ _; omega) | (show _ = _; omega) | (show _ ≤ _; omega))
  clear c344 c345 c346 c347 c348 c349 c350 c351 c352 c353 c354 c355 c356 c357 c343 l359 fr358 e361
  try clear h339
  refine ab_aload_n d_MText_init_123 rfl rfl rfl ?_
  refine ab_bipush (v := 8) d_MText_init_124 (by decide) ?_
  refine ab_newaL (N := 8) l377 d_MText_init_126 rfl (k1 143 rfl rfl) tI (Or.inl rfl) (by decide) (by decide) (by decide) (by decide) (by decide) (fun h379 e380 e381 e382 => ?_)
  have c383 : h379[b + 15]? = some (.inl (.int, 8, .inl (fun _ => 0))) := e381
  have c384 : h379[b]? = some (.inr (14, [.ref (b + 1), .int 0, .int 0, .ref (b + 2), .ref (b + 3), .ref (b + 4), .ref (b + 5), .ref (b + 6), .ref (b + 7), .int 0, .int 0, .int 0, .int 0, .ref (b + 8), .ref (b + 9), .ref (b + 10), .int 0, .ref (b + 11), .ref (b + 12), .ref (b + 13), .ref (b + 14), .int 0, .null, .null, .null, .null, .int 0, .null, .null, .int 0, .null, .null, .null, .null, .null, .null, .null, .int 0, .null, .null, .null, .int 0, .int 0])) := (e382 _ (by omega)).trans c362
  have c385 : h379[b+1]? = some (.inl (.byte, 6000, .inl (fun _ => 0))) := (e382 _ (by omega)).trans c363
  have c386 : h379[b+2]? = some (.inl (.int, 6002, .inl (fun _ => 0))) := (e382 _ (by omega)).trans c364
  have c387 : h379[b+3]? = some (.inl (.int, 6002, .inl (fun _ => 0))) := (e382 _ (by omega)).trans c365
  have c388 : h379[b+4]? = some (.inl (.int, 6002, .inl (fun _ => 0))) := (e382 _ (by omega)).trans c366
  have c389 : h379[b+5]? = some (.inl (.int, 6002, .inl (fun _ => 0))) := (e382 _ (by omega)).trans c367
  have c390 : h379[b+6]? = some (.inl (.boolean, 6002, .inl (fun _ => 0))) := (e382 _ (by omega)).trans c368
  have c391 : h379[b+7]? = some (.inl (.int, 6002, .inl (fun _ => 0))) := (e382 _ (by omega)).trans c369
  have c392 : h379[b+8]? = some (.inl (.int, 56, .inl (fun _ => 0))) := (e382 _ (by omega)).trans c370
  have c393 : h379[b+9]? = some (.inl (.int, 56, .inl (fun _ => 0))) := (e382 _ (by omega)).trans c371
  have c394 : h379[b+10]? = some (.inl (.int, 56, .inl (fun _ => 0))) := (e382 _ (by omega)).trans c372
  have c395 : h379[b+11]? = some (.inl (.int, 16, .inl (fun _ => 0))) := (e382 _ (by omega)).trans c373
  have c396 : h379[b+12]? = some (.inl (.int, 17, .inl (fun _ => 0))) := (e382 _ (by omega)).trans c374
  have c397 : h379[b+13]? = some (.inl (.int, 48, .inl (fun _ => 0))) := (e382 _ (by omega)).trans c375
  have c398 : h379[b+14]? = some (.inl (.int, 48, .inl (fun _ => 0))) := (e382 _ (by omega)).trans c376
  have fr399 : ab_fr (in_up b) h h379 := ab_fr_new fr378 e382 e380 l377
  have l400 : h379.length = b + 16 := e380
  clear c362 c363 c364 c365 c366 c367 c368 c369 c370 c371 c372 c373 c374 c375 c376 e380 e381 e382 l377 fr378
  try clear h360
  refine ab_putF (f := 22) d_MText_init_128 c384 rfl (by decide) (k8 196 rfl rfl) rfl rfl rfl rfl (fun _ => rfl) (fun _ => rfl) (Nat.le_of_ble_eq_true rfl) ?_
  show ab_V _ _ _ _ _ _ _ 131 [some (.ref b)] [] (h379.set b (.inr (14, [.ref (b + 1), .int 0, .int 0, .ref (b + 2), .ref (b + 3), .ref (b + 4), .ref (b + 5), .ref (b + 6), .ref (b + 7), .int 0, .int 0, .int 0, .int 0, .ref (b + 8), .ref (b + 9), .ref (b + 10), .int 0, .ref (b + 11), .ref (b + 12), .ref (b + 13), .ref (b + 14), .int 0, .ref (b + 15), .null, .null, .null, .int 0, .null, .null, .int 0, .null, .null, .null, .null, .null, .null, .null, .int 0, .null, .null, .null, .int 0, .int 0])))
  refine ab_gen (fun h401 e402 => ?_)
  have c403 : h401[b]? = some (.inr (14, [.ref (b + 1), .int 0, .int 0, .ref (b + 2), .ref (b + 3), .ref (b + 4), .ref (b + 5), .ref (b + 6), .ref (b + 7), .int 0, .int 0, .int 0, .int 0, .ref (b + 8), .ref (b + 9), .ref (b + 10), .int 0, .ref (b + 11), .ref (b + 12), .ref (b + 13), .ref (b + 14), .int 0, .ref (b + 15), .null, .null, .null, .int 0, .null, .null, .int 0, .null, .null, .null, .null, .null, .null, .null, .int 0, .null, .null, .null, .int 0, .int 0])) := ab_self e402 c384
  have c404 : h401[b+1]? = some (.inl (.byte, 6000, .inl (fun _ => 0))) := ab_other e402 (by omega) c385
  have c405 : h401[b+2]? = some (.inl (.int, 6002, .inl (fun _ => 0))) := ab_other e402 (by omega) c386
  have c406 : h401[b+3]? = some (.inl (.int, 6002, .inl (fun _ => 0))) := ab_other e402 (by omega) c387
  have c407 : h401[b+4]? = some (.inl (.int, 6002, .inl (fun _ => 0))) := ab_other e402 (by omega) c388
  have c408 : h401[b+5]? = some (.inl (.int, 6002, .inl (fun _ => 0))) := ab_other e402 (by omega) c389
  have c409 : h401[b+6]? = some (.inl (.boolean, 6002, .inl (fun _ => 0))) := ab_other e402 (by omega) c390
  have c410 : h401[b+7]? = some (.inl (.int, 6002, .inl (fun _ => 0))) := ab_other e402 (by omega) c391
  have c411 : h401[b+8]? = some (.inl (.int, 56, .inl (fun _ => 0))) := ab_other e402 (by omega) c392
  have c412 : h401[b+9]? = some (.inl (.int, 56, .inl (fun _ => 0))) := ab_other e402 (by omega) c393
  have c413 : h401[b+10]? = some (.inl (.int, 56, .inl (fun _ => 0))) := ab_other e402 (by omega) c394
  have c414 : h401[b+11]? = some (.inl (.int, 16, .inl (fun _ => 0))) := ab_other e402 (by omega) c395
  have c415 : h401[b+12]? = some (.inl (.int, 17, .inl (fun _ => 0))) := ab_other e402 (by omega) c396
  have c416 : h401[b+13]? = some (.inl (.int, 48, .inl (fun _ => 0))) := ab_other e402 (by omega) c397
  have c417 : h401[b+14]? = some (.inl (.int, 48, .inl (fun _ => 0))) := ab_other e402 (by omega) c398
  have c418 : h401[b+15]? = some (.inl (.int, 8, .inl (fun _ => 0))) := ab_other e402 (by omega) c383
  have l419 : h401.length = b + 16 := by rw [e402]; exact List.length_set.trans l400
  have fr420 : ab_fr (in_up b) h h401 := ab_fr_set fr399 e402 (by first | (show _ ∧ _; omega) | (show _ ∨ _; omega) | (show _ = _; omega) | (show _ ≤ _; omega))
  clear c384 c385 c386 c387 c388 c389 c390 c391 c392 c393 c394 c395 c396 c397 c398 c383 l400 fr399 e402
  try clear h379
  refine ab_aload_n d_MText_init_131 rfl rfl rfl ?_
  refine ab_bipush (v := 8) d_MText_init_132 (by decide) ?_
  refine ab_newaL (N := 8) l419 d_MText_init_134 rfl (k1 143 rfl rfl) tI (Or.inl rfl) (by decide) (by decide) (by decide) (by decide) (by decide) (fun h421 e422 e423 e424 => ?_)
  have c425 : h421[b + 16]? = some (.inl (.int, 8, .inl (fun _ => 0))) := e423
  have c426 : h421[b]? = some (.inr (14, [.ref (b + 1), .int 0, .int 0, .ref (b + 2), .ref (b + 3), .ref (b + 4), .ref (b + 5), .ref (b + 6), .ref (b + 7), .int 0, .int 0, .int 0, .int 0, .ref (b + 8), .ref (b + 9), .ref (b + 10), .int 0, .ref (b + 11), .ref (b + 12), .ref (b + 13), .ref (b + 14), .int 0, .ref (b + 15), .null, .null, .null, .int 0, .null, .null, .int 0, .null, .null, .null, .null, .null, .null, .null, .int 0, .null, .null, .null, .int 0, .int 0])) := (e424 _ (by omega)).trans c403
  have c427 : h421[b+1]? = some (.inl (.byte, 6000, .inl (fun _ => 0))) := (e424 _ (by omega)).trans c404
  have c428 : h421[b+2]? = some (.inl (.int, 6002, .inl (fun _ => 0))) := (e424 _ (by omega)).trans c405
  have c429 : h421[b+3]? = some (.inl (.int, 6002, .inl (fun _ => 0))) := (e424 _ (by omega)).trans c406
  have c430 : h421[b+4]? = some (.inl (.int, 6002, .inl (fun _ => 0))) := (e424 _ (by omega)).trans c407
  have c431 : h421[b+5]? = some (.inl (.int, 6002, .inl (fun _ => 0))) := (e424 _ (by omega)).trans c408
  have c432 : h421[b+6]? = some (.inl (.boolean, 6002, .inl (fun _ => 0))) := (e424 _ (by omega)).trans c409
  have c433 : h421[b+7]? = some (.inl (.int, 6002, .inl (fun _ => 0))) := (e424 _ (by omega)).trans c410
  have c434 : h421[b+8]? = some (.inl (.int, 56, .inl (fun _ => 0))) := (e424 _ (by omega)).trans c411
  have c435 : h421[b+9]? = some (.inl (.int, 56, .inl (fun _ => 0))) := (e424 _ (by omega)).trans c412
  have c436 : h421[b+10]? = some (.inl (.int, 56, .inl (fun _ => 0))) := (e424 _ (by omega)).trans c413
  have c437 : h421[b+11]? = some (.inl (.int, 16, .inl (fun _ => 0))) := (e424 _ (by omega)).trans c414
  have c438 : h421[b+12]? = some (.inl (.int, 17, .inl (fun _ => 0))) := (e424 _ (by omega)).trans c415
  have c439 : h421[b+13]? = some (.inl (.int, 48, .inl (fun _ => 0))) := (e424 _ (by omega)).trans c416
  have c440 : h421[b+14]? = some (.inl (.int, 48, .inl (fun _ => 0))) := (e424 _ (by omega)).trans c417
  have c441 : h421[b+15]? = some (.inl (.int, 8, .inl (fun _ => 0))) := (e424 _ (by omega)).trans c418
  have fr442 : ab_fr (in_up b) h h421 := ab_fr_new fr420 e424 e422 l419
  have l443 : h421.length = b + 17 := e422
  clear c403 c404 c405 c406 c407 c408 c409 c410 c411 c412 c413 c414 c415 c416 c417 c418 e422 e423 e424 l419 fr420
  try clear h401
  refine ab_putF (f := 23) d_MText_init_136 c426 rfl (by decide) (k8 198 rfl rfl) rfl rfl rfl rfl (fun _ => rfl) (fun _ => rfl) (Nat.le_of_ble_eq_true rfl) ?_
  show ab_V _ _ _ _ _ _ _ 139 [some (.ref b)] [] (h421.set b (.inr (14, [.ref (b + 1), .int 0, .int 0, .ref (b + 2), .ref (b + 3), .ref (b + 4), .ref (b + 5), .ref (b + 6), .ref (b + 7), .int 0, .int 0, .int 0, .int 0, .ref (b + 8), .ref (b + 9), .ref (b + 10), .int 0, .ref (b + 11), .ref (b + 12), .ref (b + 13), .ref (b + 14), .int 0, .ref (b + 15), .ref (b + 16), .null, .null, .int 0, .null, .null, .int 0, .null, .null, .null, .null, .null, .null, .null, .int 0, .null, .null, .null, .int 0, .int 0])))
  refine ab_gen (fun h444 e445 => ?_)
  have c446 : h444[b]? = some (.inr (14, [.ref (b + 1), .int 0, .int 0, .ref (b + 2), .ref (b + 3), .ref (b + 4), .ref (b + 5), .ref (b + 6), .ref (b + 7), .int 0, .int 0, .int 0, .int 0, .ref (b + 8), .ref (b + 9), .ref (b + 10), .int 0, .ref (b + 11), .ref (b + 12), .ref (b + 13), .ref (b + 14), .int 0, .ref (b + 15), .ref (b + 16), .null, .null, .int 0, .null, .null, .int 0, .null, .null, .null, .null, .null, .null, .null, .int 0, .null, .null, .null, .int 0, .int 0])) := ab_self e445 c426
  have c447 : h444[b+1]? = some (.inl (.byte, 6000, .inl (fun _ => 0))) := ab_other e445 (by omega) c427
  have c448 : h444[b+2]? = some (.inl (.int, 6002, .inl (fun _ => 0))) := ab_other e445 (by omega) c428
  have c449 : h444[b+3]? = some (.inl (.int, 6002, .inl (fun _ => 0))) := ab_other e445 (by omega) c429
  have c450 : h444[b+4]? = some (.inl (.int, 6002, .inl (fun _ => 0))) := ab_other e445 (by omega) c430
  have c451 : h444[b+5]? = some (.inl (.int, 6002, .inl (fun _ => 0))) := ab_other e445 (by omega) c431
  have c452 : h444[b+6]? = some (.inl (.boolean, 6002, .inl (fun _ => 0))) := ab_other e445 (by omega) c432
  have c453 : h444[b+7]? = some (.inl (.int, 6002, .inl (fun _ => 0))) := ab_other e445 (by omega) c433
  have c454 : h444[b+8]? = some (.inl (.int, 56, .inl (fun _ => 0))) := ab_other e445 (by omega) c434
  have c455 : h444[b+9]? = some (.inl (.int, 56, .inl (fun _ => 0))) := ab_other e445 (by omega) c435
  have c456 : h444[b+10]? = some (.inl (.int, 56, .inl (fun _ => 0))) := ab_other e445 (by omega) c436
  have c457 : h444[b+11]? = some (.inl (.int, 16, .inl (fun _ => 0))) := ab_other e445 (by omega) c437
  have c458 : h444[b+12]? = some (.inl (.int, 17, .inl (fun _ => 0))) := ab_other e445 (by omega) c438
  have c459 : h444[b+13]? = some (.inl (.int, 48, .inl (fun _ => 0))) := ab_other e445 (by omega) c439
  have c460 : h444[b+14]? = some (.inl (.int, 48, .inl (fun _ => 0))) := ab_other e445 (by omega) c440
  have c461 : h444[b+15]? = some (.inl (.int, 8, .inl (fun _ => 0))) := ab_other e445 (by omega) c441
  have c462 : h444[b+16]? = some (.inl (.int, 8, .inl (fun _ => 0))) := ab_other e445 (by omega) c425
  have l463 : h444.length = b + 17 := by rw [e445]; exact List.length_set.trans l443
  have fr464 : ab_fr (in_up b) h h444 := ab_fr_set fr442 e445 (by first | (show _ ∧ _; omega) | (show _ ∨ _; omega) | (show _ = _; omega) | (show _ ≤ _; omega))
  clear c426 c427 c428 c429 c430 c431 c432 c433 c434 c435 c436 c437 c438 c439 c440 c441 c425 l443 fr442 e445
  try clear h421
  refine ab_aload_n d_MText_init_139 rfl rfl rfl ?_
  refine ab_bipush (v := 32) d_MText_init_140 (by decide) ?_
  refine ab_newaL (N := 32) l463 d_MText_init_142 rfl (k1 143 rfl rfl) tI (Or.inl rfl) (by decide) (by decide) (by decide) (by decide) (by decide) (fun h465 e466 e467 e468 => ?_)
  have c469 : h465[b + 17]? = some (.inl (.int, 32, .inl (fun _ => 0))) := e467
  have c470 : h465[b]? = some (.inr (14, [.ref (b + 1), .int 0, .int 0, .ref (b + 2), .ref (b + 3), .ref (b + 4), .ref (b + 5), .ref (b + 6), .ref (b + 7), .int 0, .int 0, .int 0, .int 0, .ref (b + 8), .ref (b + 9), .ref (b + 10), .int 0, .ref (b + 11), .ref (b + 12), .ref (b + 13), .ref (b + 14), .int 0, .ref (b + 15), .ref (b + 16), .null, .null, .int 0, .null, .null, .int 0, .null, .null, .null, .null, .null, .null, .null, .int 0, .null, .null, .null, .int 0, .int 0])) := (e468 _ (by omega)).trans c446
  have c471 : h465[b+1]? = some (.inl (.byte, 6000, .inl (fun _ => 0))) := (e468 _ (by omega)).trans c447
  have c472 : h465[b+2]? = some (.inl (.int, 6002, .inl (fun _ => 0))) := (e468 _ (by omega)).trans c448
  have c473 : h465[b+3]? = some (.inl (.int, 6002, .inl (fun _ => 0))) := (e468 _ (by omega)).trans c449
  have c474 : h465[b+4]? = some (.inl (.int, 6002, .inl (fun _ => 0))) := (e468 _ (by omega)).trans c450
  have c475 : h465[b+5]? = some (.inl (.int, 6002, .inl (fun _ => 0))) := (e468 _ (by omega)).trans c451
  have c476 : h465[b+6]? = some (.inl (.boolean, 6002, .inl (fun _ => 0))) := (e468 _ (by omega)).trans c452
  have c477 : h465[b+7]? = some (.inl (.int, 6002, .inl (fun _ => 0))) := (e468 _ (by omega)).trans c453
  have c478 : h465[b+8]? = some (.inl (.int, 56, .inl (fun _ => 0))) := (e468 _ (by omega)).trans c454
  have c479 : h465[b+9]? = some (.inl (.int, 56, .inl (fun _ => 0))) := (e468 _ (by omega)).trans c455
  have c480 : h465[b+10]? = some (.inl (.int, 56, .inl (fun _ => 0))) := (e468 _ (by omega)).trans c456
  have c481 : h465[b+11]? = some (.inl (.int, 16, .inl (fun _ => 0))) := (e468 _ (by omega)).trans c457
  have c482 : h465[b+12]? = some (.inl (.int, 17, .inl (fun _ => 0))) := (e468 _ (by omega)).trans c458
  have c483 : h465[b+13]? = some (.inl (.int, 48, .inl (fun _ => 0))) := (e468 _ (by omega)).trans c459
  have c484 : h465[b+14]? = some (.inl (.int, 48, .inl (fun _ => 0))) := (e468 _ (by omega)).trans c460
  have c485 : h465[b+15]? = some (.inl (.int, 8, .inl (fun _ => 0))) := (e468 _ (by omega)).trans c461
  have c486 : h465[b+16]? = some (.inl (.int, 8, .inl (fun _ => 0))) := (e468 _ (by omega)).trans c462
  have fr487 : ab_fr (in_up b) h h465 := ab_fr_new fr464 e468 e466 l463
  have l488 : h465.length = b + 18 := e466
  clear c446 c447 c448 c449 c450 c451 c452 c453 c454 c455 c456 c457 c458 c459 c460 c461 c462 e466 e467 e468 l463 fr464
  try clear h444
  refine ab_putF (f := 24) d_MText_init_144 c470 rfl (by decide) (k8 201 rfl rfl) rfl rfl rfl rfl (fun _ => rfl) (fun _ => rfl) (Nat.le_of_ble_eq_true rfl) ?_
  show ab_V _ _ _ _ _ _ _ 147 [some (.ref b)] [] (h465.set b (.inr (14, [.ref (b + 1), .int 0, .int 0, .ref (b + 2), .ref (b + 3), .ref (b + 4), .ref (b + 5), .ref (b + 6), .ref (b + 7), .int 0, .int 0, .int 0, .int 0, .ref (b + 8), .ref (b + 9), .ref (b + 10), .int 0, .ref (b + 11), .ref (b + 12), .ref (b + 13), .ref (b + 14), .int 0, .ref (b + 15), .ref (b + 16), .ref (b + 17), .null, .int 0, .null, .null, .int 0, .null, .null, .null, .null, .null, .null, .null, .int 0, .null, .null, .null, .int 0, .int 0])))
  refine ab_gen (fun h489 e490 => ?_)
  have c491 : h489[b]? = some (.inr (14, [.ref (b + 1), .int 0, .int 0, .ref (b + 2), .ref (b + 3), .ref (b + 4), .ref (b + 5), .ref (b + 6), .ref (b + 7), .int 0, .int 0, .int 0, .int 0, .ref (b + 8), .ref (b + 9), .ref (b + 10), .int 0, .ref (b + 11), .ref (b + 12), .ref (b + 13), .ref (b + 14), .int 0, .ref (b + 15), .ref (b + 16), .ref (b + 17), .null, .int 0, .null, .null, .int 0, .null, .null, .null, .null, .null, .null, .null, .int 0, .null, .null, .null, .int 0, .int 0])) := ab_self e490 c470
  have c492 : h489[b+1]? = some (.inl (.byte, 6000, .inl (fun _ => 0))) := ab_other e490 (by omega) c471
  have c493 : h489[b+2]? = some (.inl (.int, 6002, .inl (fun _ => 0))) := ab_other e490 (by omega) c472
  have c494 : h489[b+3]? = some (.inl (.int, 6002, .inl (fun _ => 0))) := ab_other e490 (by omega) c473
  have c495 : h489[b+4]? = some (.inl (.int, 6002, .inl (fun _ => 0))) := ab_other e490 (by omega) c474
  have c496 : h489[b+5]? = some (.inl (.int, 6002, .inl (fun _ => 0))) := ab_other e490 (by omega) c475
  have c497 : h489[b+6]? = some (.inl (.boolean, 6002, .inl (fun _ => 0))) := ab_other e490 (by omega) c476
  have c498 : h489[b+7]? = some (.inl (.int, 6002, .inl (fun _ => 0))) := ab_other e490 (by omega) c477
  have c499 : h489[b+8]? = some (.inl (.int, 56, .inl (fun _ => 0))) := ab_other e490 (by omega) c478
  have c500 : h489[b+9]? = some (.inl (.int, 56, .inl (fun _ => 0))) := ab_other e490 (by omega) c479
  have c501 : h489[b+10]? = some (.inl (.int, 56, .inl (fun _ => 0))) := ab_other e490 (by omega) c480
  have c502 : h489[b+11]? = some (.inl (.int, 16, .inl (fun _ => 0))) := ab_other e490 (by omega) c481
  have c503 : h489[b+12]? = some (.inl (.int, 17, .inl (fun _ => 0))) := ab_other e490 (by omega) c482
  have c504 : h489[b+13]? = some (.inl (.int, 48, .inl (fun _ => 0))) := ab_other e490 (by omega) c483
  have c505 : h489[b+14]? = some (.inl (.int, 48, .inl (fun _ => 0))) := ab_other e490 (by omega) c484
  have c506 : h489[b+15]? = some (.inl (.int, 8, .inl (fun _ => 0))) := ab_other e490 (by omega) c485
  have c507 : h489[b+16]? = some (.inl (.int, 8, .inl (fun _ => 0))) := ab_other e490 (by omega) c486
  have c508 : h489[b+17]? = some (.inl (.int, 32, .inl (fun _ => 0))) := ab_other e490 (by omega) c469
  have l509 : h489.length = b + 18 := by rw [e490]; exact List.length_set.trans l488
  have fr510 : ab_fr (in_up b) h h489 := ab_fr_set fr487 e490 (by first | (show _ ∧ _; omega) | (show _ ∨ _; omega) | (show _ = _; omega) | (show _ ≤ _; omega))
  clear c470 c471 c472 c473 c474 c475 c476 c477 c478 c479 c480 c481 c482 c483 c484 c485 c486 c469 l488 fr487 e490
  try clear h465
  refine ab_aload_n d_MText_init_147 rfl rfl rfl ?_
  refine ab_bipush (v := 32) d_MText_init_148 (by decide) ?_
  refine ab_newaL (N := 32) l509 d_MText_init_150 rfl (k1 143 rfl rfl) tI (Or.inl rfl) (by decide) (by decide) (by decide) (by decide) (by decide) (fun h511 e512 e513 e514 => ?_)
  have c515 : h511[b + 18]? = some (.inl (.int, 32, .inl (fun _ => 0))) := e513
  have c516 : h511[b]? = some (.inr (14, [.ref (b + 1), .int 0, .int 0, .ref (b + 2), .ref (b + 3), .ref (b + 4), .ref (b + 5), .ref (b + 6), .ref (b + 7), .int 0, .int 0, .int 0, .int 0, .ref (b + 8), .ref (b + 9), .ref (b + 10), .int 0, .ref (b + 11), .ref (b + 12), .ref (b + 13), .ref (b + 14), .int 0, .ref (b + 15), .ref (b + 16), .ref (b + 17), .null, .int 0, .null, .null, .int 0, .null, .null, .null, .null, .null, .null, .null, .int 0, .null, .null, .null, .int 0, .int 0])) := (e514 _ (by omega)).trans c491
  have c517 : h511[b+1]? = some (.inl (.byte, 6000, .inl (fun _ => 0))) := (e514 _ (by omega)).trans c492
  have c518 : h511[b+2]? = some (.inl (.int, 6002, .inl (fun _ => 0))) := (e514 _ (by omega)).trans c493
  have c519 : h511[b+3]? = some (.inl (.int, 6002, .inl (fun _ => 0))) := (e514 _ (by omega)).trans c494
  have c520 : h511[b+4]? = some (.inl (.int, 6002, .inl (fun _ => 0))) := (e514 _ (by omega)).trans c495
  have c521 : h511[b+5]? = some (.inl (.int, 6002, .inl (fun _ => 0))) := (e514 _ (by omega)).trans c496
  have c522 : h511[b+6]? = some (.inl (.boolean, 6002, .inl (fun _ => 0))) := (e514 _ (by omega)).trans c497
  have c523 : h511[b+7]? = some (.inl (.int, 6002, .inl (fun _ => 0))) := (e514 _ (by omega)).trans c498
  have c524 : h511[b+8]? = some (.inl (.int, 56, .inl (fun _ => 0))) := (e514 _ (by omega)).trans c499
  have c525 : h511[b+9]? = some (.inl (.int, 56, .inl (fun _ => 0))) := (e514 _ (by omega)).trans c500
  have c526 : h511[b+10]? = some (.inl (.int, 56, .inl (fun _ => 0))) := (e514 _ (by omega)).trans c501
  have c527 : h511[b+11]? = some (.inl (.int, 16, .inl (fun _ => 0))) := (e514 _ (by omega)).trans c502
  have c528 : h511[b+12]? = some (.inl (.int, 17, .inl (fun _ => 0))) := (e514 _ (by omega)).trans c503
  have c529 : h511[b+13]? = some (.inl (.int, 48, .inl (fun _ => 0))) := (e514 _ (by omega)).trans c504
  have c530 : h511[b+14]? = some (.inl (.int, 48, .inl (fun _ => 0))) := (e514 _ (by omega)).trans c505
  have c531 : h511[b+15]? = some (.inl (.int, 8, .inl (fun _ => 0))) := (e514 _ (by omega)).trans c506
  have c532 : h511[b+16]? = some (.inl (.int, 8, .inl (fun _ => 0))) := (e514 _ (by omega)).trans c507
  have c533 : h511[b+17]? = some (.inl (.int, 32, .inl (fun _ => 0))) := (e514 _ (by omega)).trans c508
  have fr534 : ab_fr (in_up b) h h511 := ab_fr_new fr510 e514 e512 l509
  have l535 : h511.length = b + 19 := e512
  clear c491 c492 c493 c494 c495 c496 c497 c498 c499 c500 c501 c502 c503 c504 c505 c506 c507 c508 e512 e513 e514 l509 fr510
  try clear h489
  refine ab_putF (f := 25) d_MText_init_152 c516 rfl (by decide) (k8 204 rfl rfl) rfl rfl rfl rfl (fun _ => rfl) (fun _ => rfl) (Nat.le_of_ble_eq_true rfl) ?_
  show ab_V _ _ _ _ _ _ _ 155 [some (.ref b)] [] (h511.set b (.inr (14, [.ref (b + 1), .int 0, .int 0, .ref (b + 2), .ref (b + 3), .ref (b + 4), .ref (b + 5), .ref (b + 6), .ref (b + 7), .int 0, .int 0, .int 0, .int 0, .ref (b + 8), .ref (b + 9), .ref (b + 10), .int 0, .ref (b + 11), .ref (b + 12), .ref (b + 13), .ref (b + 14), .int 0, .ref (b + 15), .ref (b + 16), .ref (b + 17), .ref (b + 18), .int 0, .null, .null, .int 0, .null, .null, .null, .null, .null, .null, .null, .int 0, .null, .null, .null, .int 0, .int 0])))
  refine ab_gen (fun h536 e537 => ?_)
  have c538 : h536[b]? = some (.inr (14, [.ref (b + 1), .int 0, .int 0, .ref (b + 2), .ref (b + 3), .ref (b + 4), .ref (b + 5), .ref (b + 6), .ref (b + 7), .int 0, .int 0, .int 0, .int 0, .ref (b + 8), .ref (b + 9), .ref (b + 10), .int 0, .ref (b + 11), .ref (b + 12), .ref (b + 13), .ref (b + 14), .int 0, .ref (b + 15), .ref (b + 16), .ref (b + 17), .ref (b + 18), .int 0, .null, .null, .int 0, .null, .null, .null, .null, .null, .null, .null, .int 0, .null, .null, .null, .int 0, .int 0])) := ab_self e537 c516
  have c539 : h536[b+1]? = some (.inl (.byte, 6000, .inl (fun _ => 0))) := ab_other e537 (by omega) c517
  have c540 : h536[b+2]? = some (.inl (.int, 6002, .inl (fun _ => 0))) := ab_other e537 (by omega) c518
  have c541 : h536[b+3]? = some (.inl (.int, 6002, .inl (fun _ => 0))) := ab_other e537 (by omega) c519
  have c542 : h536[b+4]? = some (.inl (.int, 6002, .inl (fun _ => 0))) := ab_other e537 (by omega) c520
  have c543 : h536[b+5]? = some (.inl (.int, 6002, .inl (fun _ => 0))) := ab_other e537 (by omega) c521
  have c544 : h536[b+6]? = some (.inl (.boolean, 6002, .inl (fun _ => 0))) := ab_other e537 (by omega) c522
  have c545 : h536[b+7]? = some (.inl (.int, 6002, .inl (fun _ => 0))) := ab_other e537 (by omega) c523
  have c546 : h536[b+8]? = some (.inl (.int, 56, .inl (fun _ => 0))) := ab_other e537 (by omega) c524
  have c547 : h536[b+9]? = some (.inl (.int, 56, .inl (fun _ => 0))) := ab_other e537 (by omega) c525
  have c548 : h536[b+10]? = some (.inl (.int, 56, .inl (fun _ => 0))) := ab_other e537 (by omega) c526
  have c549 : h536[b+11]? = some (.inl (.int, 16, .inl (fun _ => 0))) := ab_other e537 (by omega) c527
  have c550 : h536[b+12]? = some (.inl (.int, 17, .inl (fun _ => 0))) := ab_other e537 (by omega) c528
  have c551 : h536[b+13]? = some (.inl (.int, 48, .inl (fun _ => 0))) := ab_other e537 (by omega) c529
  have c552 : h536[b+14]? = some (.inl (.int, 48, .inl (fun _ => 0))) := ab_other e537 (by omega) c530
  have c553 : h536[b+15]? = some (.inl (.int, 8, .inl (fun _ => 0))) := ab_other e537 (by omega) c531
  have c554 : h536[b+16]? = some (.inl (.int, 8, .inl (fun _ => 0))) := ab_other e537 (by omega) c532
  have c555 : h536[b+17]? = some (.inl (.int, 32, .inl (fun _ => 0))) := ab_other e537 (by omega) c533
  have c556 : h536[b+18]? = some (.inl (.int, 32, .inl (fun _ => 0))) := ab_other e537 (by omega) c515
  have l557 : h536.length = b + 19 := by rw [e537]; exact List.length_set.trans l535
  have fr558 : ab_fr (in_up b) h h536 := ab_fr_set fr534 e537 (by first | (show _ ∧ _; omega) | (show _ ∨ _; omega) | (show _ = _; omega) | (show _ ≤ _; omega))
  clear c516 c517 c518 c519 c520 c521 c522 c523 c524 c525 c526 c527 c528 c529 c530 c531 c532 c533 c515 l535 fr534 e537
  try clear h511
  refine ab_aload_n d_MText_init_155 rfl rfl rfl ?_
  refine ab_bipush (v := 16) d_MText_init_156 (by decide) ?_
  refine ab_newaL (N := 16) l557 d_MText_init_158 rfl (k1 143 rfl rfl) tI (Or.inl rfl) (by decide) (by decide) (by decide) (by decide) (by decide) (fun h559 e560 e561 e562 => ?_)
  have c563 : h559[b + 19]? = some (.inl (.int, 16, .inl (fun _ => 0))) := e561
  have c564 : h559[b]? = some (.inr (14, [.ref (b + 1), .int 0, .int 0, .ref (b + 2), .ref (b + 3), .ref (b + 4), .ref (b + 5), .ref (b + 6), .ref (b + 7), .int 0, .int 0, .int 0, .int 0, .ref (b + 8), .ref (b + 9), .ref (b + 10), .int 0, .ref (b + 11), .ref (b + 12), .ref (b + 13), .ref (b + 14), .int 0, .ref (b + 15), .ref (b + 16), .ref (b + 17), .ref (b + 18), .int 0, .null, .null, .int 0, .null, .null, .null, .null, .null, .null, .null, .int 0, .null, .null, .null, .int 0, .int 0])) := (e562 _ (by omega)).trans c538
  have c565 : h559[b+1]? = some (.inl (.byte, 6000, .inl (fun _ => 0))) := (e562 _ (by omega)).trans c539
  have c566 : h559[b+2]? = some (.inl (.int, 6002, .inl (fun _ => 0))) := (e562 _ (by omega)).trans c540
  have c567 : h559[b+3]? = some (.inl (.int, 6002, .inl (fun _ => 0))) := (e562 _ (by omega)).trans c541
  have c568 : h559[b+4]? = some (.inl (.int, 6002, .inl (fun _ => 0))) := (e562 _ (by omega)).trans c542
  have c569 : h559[b+5]? = some (.inl (.int, 6002, .inl (fun _ => 0))) := (e562 _ (by omega)).trans c543
  have c570 : h559[b+6]? = some (.inl (.boolean, 6002, .inl (fun _ => 0))) := (e562 _ (by omega)).trans c544
  have c571 : h559[b+7]? = some (.inl (.int, 6002, .inl (fun _ => 0))) := (e562 _ (by omega)).trans c545
  have c572 : h559[b+8]? = some (.inl (.int, 56, .inl (fun _ => 0))) := (e562 _ (by omega)).trans c546
  have c573 : h559[b+9]? = some (.inl (.int, 56, .inl (fun _ => 0))) := (e562 _ (by omega)).trans c547
  have c574 : h559[b+10]? = some (.inl (.int, 56, .inl (fun _ => 0))) := (e562 _ (by omega)).trans c548
  have c575 : h559[b+11]? = some (.inl (.int, 16, .inl (fun _ => 0))) := (e562 _ (by omega)).trans c549
  have c576 : h559[b+12]? = some (.inl (.int, 17, .inl (fun _ => 0))) := (e562 _ (by omega)).trans c550
  have c577 : h559[b+13]? = some (.inl (.int, 48, .inl (fun _ => 0))) := (e562 _ (by omega)).trans c551
  have c578 : h559[b+14]? = some (.inl (.int, 48, .inl (fun _ => 0))) := (e562 _ (by omega)).trans c552
  have c579 : h559[b+15]? = some (.inl (.int, 8, .inl (fun _ => 0))) := (e562 _ (by omega)).trans c553
  have c580 : h559[b+16]? = some (.inl (.int, 8, .inl (fun _ => 0))) := (e562 _ (by omega)).trans c554
  have c581 : h559[b+17]? = some (.inl (.int, 32, .inl (fun _ => 0))) := (e562 _ (by omega)).trans c555
  have c582 : h559[b+18]? = some (.inl (.int, 32, .inl (fun _ => 0))) := (e562 _ (by omega)).trans c556
  have fr583 : ab_fr (in_up b) h h559 := ab_fr_new fr558 e562 e560 l557
  have l584 : h559.length = b + 20 := e560
  clear c538 c539 c540 c541 c542 c543 c544 c545 c546 c547 c548 c549 c550 c551 c552 c553 c554 c555 c556 e560 e561 e562 l557 fr558
  try clear h536
  refine ab_putF (f := 27) d_MText_init_160 c564 rfl (by decide) (k8 207 rfl rfl) rfl rfl rfl rfl (fun _ => rfl) (fun _ => rfl) (Nat.le_of_ble_eq_true rfl) ?_
  show ab_V _ _ _ _ _ _ _ 163 [some (.ref b)] [] (h559.set b (.inr (14, [.ref (b + 1), .int 0, .int 0, .ref (b + 2), .ref (b + 3), .ref (b + 4), .ref (b + 5), .ref (b + 6), .ref (b + 7), .int 0, .int 0, .int 0, .int 0, .ref (b + 8), .ref (b + 9), .ref (b + 10), .int 0, .ref (b + 11), .ref (b + 12), .ref (b + 13), .ref (b + 14), .int 0, .ref (b + 15), .ref (b + 16), .ref (b + 17), .ref (b + 18), .int 0, .ref (b + 19), .null, .int 0, .null, .null, .null, .null, .null, .null, .null, .int 0, .null, .null, .null, .int 0, .int 0])))
  refine ab_gen (fun h585 e586 => ?_)
  have c587 : h585[b]? = some (.inr (14, [.ref (b + 1), .int 0, .int 0, .ref (b + 2), .ref (b + 3), .ref (b + 4), .ref (b + 5), .ref (b + 6), .ref (b + 7), .int 0, .int 0, .int 0, .int 0, .ref (b + 8), .ref (b + 9), .ref (b + 10), .int 0, .ref (b + 11), .ref (b + 12), .ref (b + 13), .ref (b + 14), .int 0, .ref (b + 15), .ref (b + 16), .ref (b + 17), .ref (b + 18), .int 0, .ref (b + 19), .null, .int 0, .null, .null, .null, .null, .null, .null, .null, .int 0, .null, .null, .null, .int 0, .int 0])) := ab_self e586 c564
  have c588 : h585[b+1]? = some (.inl (.byte, 6000, .inl (fun _ => 0))) := ab_other e586 (by omega) c565
  have c589 : h585[b+2]? = some (.inl (.int, 6002, .inl (fun _ => 0))) := ab_other e586 (by omega) c566
  have c590 : h585[b+3]? = some (.inl (.int, 6002, .inl (fun _ => 0))) := ab_other e586 (by omega) c567
  have c591 : h585[b+4]? = some (.inl (.int, 6002, .inl (fun _ => 0))) := ab_other e586 (by omega) c568
  have c592 : h585[b+5]? = some (.inl (.int, 6002, .inl (fun _ => 0))) := ab_other e586 (by omega) c569
  have c593 : h585[b+6]? = some (.inl (.boolean, 6002, .inl (fun _ => 0))) := ab_other e586 (by omega) c570
  have c594 : h585[b+7]? = some (.inl (.int, 6002, .inl (fun _ => 0))) := ab_other e586 (by omega) c571
  have c595 : h585[b+8]? = some (.inl (.int, 56, .inl (fun _ => 0))) := ab_other e586 (by omega) c572
  have c596 : h585[b+9]? = some (.inl (.int, 56, .inl (fun _ => 0))) := ab_other e586 (by omega) c573
  have c597 : h585[b+10]? = some (.inl (.int, 56, .inl (fun _ => 0))) := ab_other e586 (by omega) c574
  have c598 : h585[b+11]? = some (.inl (.int, 16, .inl (fun _ => 0))) := ab_other e586 (by omega) c575
  have c599 : h585[b+12]? = some (.inl (.int, 17, .inl (fun _ => 0))) := ab_other e586 (by omega) c576
  have c600 : h585[b+13]? = some (.inl (.int, 48, .inl (fun _ => 0))) := ab_other e586 (by omega) c577
  have c601 : h585[b+14]? = some (.inl (.int, 48, .inl (fun _ => 0))) := ab_other e586 (by omega) c578
  have c602 : h585[b+15]? = some (.inl (.int, 8, .inl (fun _ => 0))) := ab_other e586 (by omega) c579
  have c603 : h585[b+16]? = some (.inl (.int, 8, .inl (fun _ => 0))) := ab_other e586 (by omega) c580
  have c604 : h585[b+17]? = some (.inl (.int, 32, .inl (fun _ => 0))) := ab_other e586 (by omega) c581
  have c605 : h585[b+18]? = some (.inl (.int, 32, .inl (fun _ => 0))) := ab_other e586 (by omega) c582
  have c606 : h585[b+19]? = some (.inl (.int, 16, .inl (fun _ => 0))) := ab_other e586 (by omega) c563
  have l607 : h585.length = b + 20 := by rw [e586]; exact List.length_set.trans l584
  have fr608 : ab_fr (in_up b) h h585 := ab_fr_set fr583 e586 (by first | (show _ ∧ _; omega) | (show _ ∨ _; omega) | (show _ = _; omega) | (show _ ≤ _; omega))
  clear c564 c565 c566 c567 c568 c569 c570 c571 c572 c573 c574 c575 c576 c577 c578 c579 c580 c581 c582 c563 l584 fr583 e586
  try clear h559
  refine ab_aload_n d_MText_init_163 rfl rfl rfl ?_
  refine ab_sipush (v := 768) d_MText_init_164 (by decide) ?_
  refine ab_newaL (N := 768) l607 d_MText_init_167 rfl (k1 143 rfl rfl) tI (Or.inl rfl) (by decide) (by decide) (by decide) (by decide) (by decide) (fun h609 e610 e611 e612 => ?_)
  have c613 : h609[b + 20]? = some (.inl (.int, 768, .inl (fun _ => 0))) := e611
  have c614 : h609[b]? = some (.inr (14, [.ref (b + 1), .int 0, .int 0, .ref (b + 2), .ref (b + 3), .ref (b + 4), .ref (b + 5), .ref (b + 6), .ref (b + 7), .int 0, .int 0, .int 0, .int 0, .ref (b + 8), .ref (b + 9), .ref (b + 10), .int 0, .ref (b + 11), .ref (b + 12), .ref (b + 13), .ref (b + 14), .int 0, .ref (b + 15), .ref (b + 16), .ref (b + 17), .ref (b + 18), .int 0, .ref (b + 19), .null, .int 0, .null, .null, .null, .null, .null, .null, .null, .int 0, .null, .null, .null, .int 0, .int 0])) := (e612 _ (by omega)).trans c587
  have c615 : h609[b+1]? = some (.inl (.byte, 6000, .inl (fun _ => 0))) := (e612 _ (by omega)).trans c588
  have c616 : h609[b+2]? = some (.inl (.int, 6002, .inl (fun _ => 0))) := (e612 _ (by omega)).trans c589
  have c617 : h609[b+3]? = some (.inl (.int, 6002, .inl (fun _ => 0))) := (e612 _ (by omega)).trans c590
  have c618 : h609[b+4]? = some (.inl (.int, 6002, .inl (fun _ => 0))) := (e612 _ (by omega)).trans c591
  have c619 : h609[b+5]? = some (.inl (.int, 6002, .inl (fun _ => 0))) := (e612 _ (by omega)).trans c592
  have c620 : h609[b+6]? = some (.inl (.boolean, 6002, .inl (fun _ => 0))) := (e612 _ (by omega)).trans c593
  have c621 : h609[b+7]? = some (.inl (.int, 6002, .inl (fun _ => 0))) := (e612 _ (by omega)).trans c594
  have c622 : h609[b+8]? = some (.inl (.int, 56, .inl (fun _ => 0))) := (e612 _ (by omega)).trans c595
  have c623 : h609[b+9]? = some (.inl (.int, 56, .inl (fun _ => 0))) := (e612 _ (by omega)).trans c596
  have c624 : h609[b+10]? = some (.inl (.int, 56, .inl (fun _ => 0))) := (e612 _ (by omega)).trans c597
  have c625 : h609[b+11]? = some (.inl (.int, 16, .inl (fun _ => 0))) := (e612 _ (by omega)).trans c598
  have c626 : h609[b+12]? = some (.inl (.int, 17, .inl (fun _ => 0))) := (e612 _ (by omega)).trans c599
  have c627 : h609[b+13]? = some (.inl (.int, 48, .inl (fun _ => 0))) := (e612 _ (by omega)).trans c600
  have c628 : h609[b+14]? = some (.inl (.int, 48, .inl (fun _ => 0))) := (e612 _ (by omega)).trans c601
  have c629 : h609[b+15]? = some (.inl (.int, 8, .inl (fun _ => 0))) := (e612 _ (by omega)).trans c602
  have c630 : h609[b+16]? = some (.inl (.int, 8, .inl (fun _ => 0))) := (e612 _ (by omega)).trans c603
  have c631 : h609[b+17]? = some (.inl (.int, 32, .inl (fun _ => 0))) := (e612 _ (by omega)).trans c604
  have c632 : h609[b+18]? = some (.inl (.int, 32, .inl (fun _ => 0))) := (e612 _ (by omega)).trans c605
  have c633 : h609[b+19]? = some (.inl (.int, 16, .inl (fun _ => 0))) := (e612 _ (by omega)).trans c606
  have fr634 : ab_fr (in_up b) h h609 := ab_fr_new fr608 e612 e610 l607
  have l635 : h609.length = b + 21 := e610
  clear c587 c588 c589 c590 c591 c592 c593 c594 c595 c596 c597 c598 c599 c600 c601 c602 c603 c604 c605 c606 e610 e611 e612 l607 fr608
  try clear h585
  refine ab_putF (f := 28) d_MText_init_169 c614 rfl (by decide) (k8 209 rfl rfl) rfl rfl rfl rfl (fun _ => rfl) (fun _ => rfl) (Nat.le_of_ble_eq_true rfl) ?_
  show ab_V _ _ _ _ _ _ _ 172 [some (.ref b)] [] (h609.set b (.inr (14, [.ref (b + 1), .int 0, .int 0, .ref (b + 2), .ref (b + 3), .ref (b + 4), .ref (b + 5), .ref (b + 6), .ref (b + 7), .int 0, .int 0, .int 0, .int 0, .ref (b + 8), .ref (b + 9), .ref (b + 10), .int 0, .ref (b + 11), .ref (b + 12), .ref (b + 13), .ref (b + 14), .int 0, .ref (b + 15), .ref (b + 16), .ref (b + 17), .ref (b + 18), .int 0, .ref (b + 19), .ref (b + 20), .int 0, .null, .null, .null, .null, .null, .null, .null, .int 0, .null, .null, .null, .int 0, .int 0])))
  refine ab_gen (fun h636 e637 => ?_)
  have c638 : h636[b]? = some (.inr (14, [.ref (b + 1), .int 0, .int 0, .ref (b + 2), .ref (b + 3), .ref (b + 4), .ref (b + 5), .ref (b + 6), .ref (b + 7), .int 0, .int 0, .int 0, .int 0, .ref (b + 8), .ref (b + 9), .ref (b + 10), .int 0, .ref (b + 11), .ref (b + 12), .ref (b + 13), .ref (b + 14), .int 0, .ref (b + 15), .ref (b + 16), .ref (b + 17), .ref (b + 18), .int 0, .ref (b + 19), .ref (b + 20), .int 0, .null, .null, .null, .null, .null, .null, .null, .int 0, .null, .null, .null, .int 0, .int 0])) := ab_self e637 c614
  have c639 : h636[b+1]? = some (.inl (.byte, 6000, .inl (fun _ => 0))) := ab_other e637 (by omega) c615
  have c640 : h636[b+2]? = some (.inl (.int, 6002, .inl (fun _ => 0))) := ab_other e637 (by omega) c616
  have c641 : h636[b+3]? = some (.inl (.int, 6002, .inl (fun _ => 0))) := ab_other e637 (by omega) c617
  have c642 : h636[b+4]? = some (.inl (.int, 6002, .inl (fun _ => 0))) := ab_other e637 (by omega) c618
  have c643 : h636[b+5]? = some (.inl (.int, 6002, .inl (fun _ => 0))) := ab_other e637 (by omega) c619
  have c644 : h636[b+6]? = some (.inl (.boolean, 6002, .inl (fun _ => 0))) := ab_other e637 (by omega) c620
  have c645 : h636[b+7]? = some (.inl (.int, 6002, .inl (fun _ => 0))) := ab_other e637 (by omega) c621
  have c646 : h636[b+8]? = some (.inl (.int, 56, .inl (fun _ => 0))) := ab_other e637 (by omega) c622
  have c647 : h636[b+9]? = some (.inl (.int, 56, .inl (fun _ => 0))) := ab_other e637 (by omega) c623
  have c648 : h636[b+10]? = some (.inl (.int, 56, .inl (fun _ => 0))) := ab_other e637 (by omega) c624
  have c649 : h636[b+11]? = some (.inl (.int, 16, .inl (fun _ => 0))) := ab_other e637 (by omega) c625
  have c650 : h636[b+12]? = some (.inl (.int, 17, .inl (fun _ => 0))) := ab_other e637 (by omega) c626
  have c651 : h636[b+13]? = some (.inl (.int, 48, .inl (fun _ => 0))) := ab_other e637 (by omega) c627
  have c652 : h636[b+14]? = some (.inl (.int, 48, .inl (fun _ => 0))) := ab_other e637 (by omega) c628
  have c653 : h636[b+15]? = some (.inl (.int, 8, .inl (fun _ => 0))) := ab_other e637 (by omega) c629
  have c654 : h636[b+16]? = some (.inl (.int, 8, .inl (fun _ => 0))) := ab_other e637 (by omega) c630
  have c655 : h636[b+17]? = some (.inl (.int, 32, .inl (fun _ => 0))) := ab_other e637 (by omega) c631
  have c656 : h636[b+18]? = some (.inl (.int, 32, .inl (fun _ => 0))) := ab_other e637 (by omega) c632
  have c657 : h636[b+19]? = some (.inl (.int, 16, .inl (fun _ => 0))) := ab_other e637 (by omega) c633
  have c658 : h636[b+20]? = some (.inl (.int, 768, .inl (fun _ => 0))) := ab_other e637 (by omega) c613
  have l659 : h636.length = b + 21 := by rw [e637]; exact List.length_set.trans l635
  have fr660 : ab_fr (in_up b) h h636 := ab_fr_set fr634 e637 (by first | (show _ ∧ _; omega) | (show _ ∨ _; omega) | (show _ = _; omega) | (show _ ≤ _; omega))
  clear c614 c615 c616 c617 c618 c619 c620 c621 c622 c623 c624 c625 c626 c627 c628 c629 c630 c631 c632 c633 c613 l635 fr634 e637
  try clear h609
  refine ab_aload_n d_MText_init_172 rfl rfl rfl ?_
  refine ab_bipush (v := 16) d_MText_init_173 (by decide) ?_
  refine ab_newaL (N := 16) l659 d_MText_init_175 rfl (k1 143 rfl rfl) tI (Or.inl rfl) (by decide) (by decide) (by decide) (by decide) (by decide) (fun h661 e662 e663 e664 => ?_)
  have c665 : h661[b + 21]? = some (.inl (.int, 16, .inl (fun _ => 0))) := e663
  have c666 : h661[b]? = some (.inr (14, [.ref (b + 1), .int 0, .int 0, .ref (b + 2), .ref (b + 3), .ref (b + 4), .ref (b + 5), .ref (b + 6), .ref (b + 7), .int 0, .int 0, .int 0, .int 0, .ref (b + 8), .ref (b + 9), .ref (b + 10), .int 0, .ref (b + 11), .ref (b + 12), .ref (b + 13), .ref (b + 14), .int 0, .ref (b + 15), .ref (b + 16), .ref (b + 17), .ref (b + 18), .int 0, .ref (b + 19), .ref (b + 20), .int 0, .null, .null, .null, .null, .null, .null, .null, .int 0, .null, .null, .null, .int 0, .int 0])) := (e664 _ (by omega)).trans c638
  have c667 : h661[b+1]? = some (.inl (.byte, 6000, .inl (fun _ => 0))) := (e664 _ (by omega)).trans c639
  have c668 : h661[b+2]? = some (.inl (.int, 6002, .inl (fun _ => 0))) := (e664 _ (by omega)).trans c640
  have c669 : h661[b+3]? = some (.inl (.int, 6002, .inl (fun _ => 0))) := (e664 _ (by omega)).trans c641
  have c670 : h661[b+4]? = some (.inl (.int, 6002, .inl (fun _ => 0))) := (e664 _ (by omega)).trans c642
  have c671 : h661[b+5]? = some (.inl (.int, 6002, .inl (fun _ => 0))) := (e664 _ (by omega)).trans c643
  have c672 : h661[b+6]? = some (.inl (.boolean, 6002, .inl (fun _ => 0))) := (e664 _ (by omega)).trans c644
  have c673 : h661[b+7]? = some (.inl (.int, 6002, .inl (fun _ => 0))) := (e664 _ (by omega)).trans c645
  have c674 : h661[b+8]? = some (.inl (.int, 56, .inl (fun _ => 0))) := (e664 _ (by omega)).trans c646
  have c675 : h661[b+9]? = some (.inl (.int, 56, .inl (fun _ => 0))) := (e664 _ (by omega)).trans c647
  have c676 : h661[b+10]? = some (.inl (.int, 56, .inl (fun _ => 0))) := (e664 _ (by omega)).trans c648
  have c677 : h661[b+11]? = some (.inl (.int, 16, .inl (fun _ => 0))) := (e664 _ (by omega)).trans c649
  have c678 : h661[b+12]? = some (.inl (.int, 17, .inl (fun _ => 0))) := (e664 _ (by omega)).trans c650
  have c679 : h661[b+13]? = some (.inl (.int, 48, .inl (fun _ => 0))) := (e664 _ (by omega)).trans c651
  have c680 : h661[b+14]? = some (.inl (.int, 48, .inl (fun _ => 0))) := (e664 _ (by omega)).trans c652
  have c681 : h661[b+15]? = some (.inl (.int, 8, .inl (fun _ => 0))) := (e664 _ (by omega)).trans c653
  have c682 : h661[b+16]? = some (.inl (.int, 8, .inl (fun _ => 0))) := (e664 _ (by omega)).trans c654
  have c683 : h661[b+17]? = some (.inl (.int, 32, .inl (fun _ => 0))) := (e664 _ (by omega)).trans c655
  have c684 : h661[b+18]? = some (.inl (.int, 32, .inl (fun _ => 0))) := (e664 _ (by omega)).trans c656
  have c685 : h661[b+19]? = some (.inl (.int, 16, .inl (fun _ => 0))) := (e664 _ (by omega)).trans c657
  have c686 : h661[b+20]? = some (.inl (.int, 768, .inl (fun _ => 0))) := (e664 _ (by omega)).trans c658
  have fr687 : ab_fr (in_up b) h h661 := ab_fr_new fr660 e664 e662 l659
  have l688 : h661.length = b + 22 := e662
  clear c638 c639 c640 c641 c642 c643 c644 c645 c646 c647 c648 c649 c650 c651 c652 c653 c654 c655 c656 c657 c658 e662 e663 e664 l659 fr660
  try clear h636
  refine ab_putF (f := 30) d_MText_init_177 c666 rfl (by decide) (k8 214 rfl rfl) rfl rfl rfl rfl (fun _ => rfl) (fun _ => rfl) (Nat.le_of_ble_eq_true rfl) ?_
  show ab_V _ _ _ _ _ _ _ 180 [some (.ref b)] [] (h661.set b (.inr (14, [.ref (b + 1), .int 0, .int 0, .ref (b + 2), .ref (b + 3), .ref (b + 4), .ref (b + 5), .ref (b + 6), .ref (b + 7), .int 0, .int 0, .int 0, .int 0, .ref (b + 8), .ref (b + 9), .ref (b + 10), .int 0, .ref (b + 11), .ref (b + 12), .ref (b + 13), .ref (b + 14), .int 0, .ref (b + 15), .ref (b + 16), .ref (b + 17), .ref (b + 18), .int 0, .ref (b + 19), .ref (b + 20), .int 0, .ref (b + 21), .null, .null, .null, .null, .null, .null, .int 0, .null, .null, .null, .int 0, .int 0])))
  refine ab_gen (fun h689 e690 => ?_)
  have c691 : h689[b]? = some (.inr (14, [.ref (b + 1), .int 0, .int 0, .ref (b + 2), .ref (b + 3), .ref (b + 4), .ref (b + 5), .ref (b + 6), .ref (b + 7), .int 0, .int 0, .int 0, .int 0, .ref (b + 8), .ref (b + 9), .ref (b + 10), .int 0, .ref (b + 11), .ref (b + 12), .ref (b + 13), .ref (b + 14), .int 0, .ref (b + 15), .ref (b + 16), .ref (b + 17), .ref (b + 18), .int 0, .ref (b + 19), .ref (b + 20), .int 0, .ref (b + 21), .null, .null, .null, .null, .null, .null, .int 0, .null, .null, .null, .int 0, .int 0])) := ab_self e690 c666
  have c692 : h689[b+1]? = some (.inl (.byte, 6000, .inl (fun _ => 0))) := ab_other e690 (by omega) c667
  have c693 : h689[b+2]? = some (.inl (.int, 6002, .inl (fun _ => 0))) := ab_other e690 (by omega) c668
  have c694 : h689[b+3]? = some (.inl (.int, 6002, .inl (fun _ => 0))) := ab_other e690 (by omega) c669
  have c695 : h689[b+4]? = some (.inl (.int, 6002, .inl (fun _ => 0))) := ab_other e690 (by omega) c670
  have c696 : h689[b+5]? = some (.inl (.int, 6002, .inl (fun _ => 0))) := ab_other e690 (by omega) c671
  have c697 : h689[b+6]? = some (.inl (.boolean, 6002, .inl (fun _ => 0))) := ab_other e690 (by omega) c672
  have c698 : h689[b+7]? = some (.inl (.int, 6002, .inl (fun _ => 0))) := ab_other e690 (by omega) c673
  have c699 : h689[b+8]? = some (.inl (.int, 56, .inl (fun _ => 0))) := ab_other e690 (by omega) c674
  have c700 : h689[b+9]? = some (.inl (.int, 56, .inl (fun _ => 0))) := ab_other e690 (by omega) c675
  have c701 : h689[b+10]? = some (.inl (.int, 56, .inl (fun _ => 0))) := ab_other e690 (by omega) c676
  have c702 : h689[b+11]? = some (.inl (.int, 16, .inl (fun _ => 0))) := ab_other e690 (by omega) c677
  have c703 : h689[b+12]? = some (.inl (.int, 17, .inl (fun _ => 0))) := ab_other e690 (by omega) c678
  have c704 : h689[b+13]? = some (.inl (.int, 48, .inl (fun _ => 0))) := ab_other e690 (by omega) c679
  have c705 : h689[b+14]? = some (.inl (.int, 48, .inl (fun _ => 0))) := ab_other e690 (by omega) c680
  have c706 : h689[b+15]? = some (.inl (.int, 8, .inl (fun _ => 0))) := ab_other e690 (by omega) c681
  have c707 : h689[b+16]? = some (.inl (.int, 8, .inl (fun _ => 0))) := ab_other e690 (by omega) c682
  have c708 : h689[b+17]? = some (.inl (.int, 32, .inl (fun _ => 0))) := ab_other e690 (by omega) c683
  have c709 : h689[b+18]? = some (.inl (.int, 32, .inl (fun _ => 0))) := ab_other e690 (by omega) c684
  have c710 : h689[b+19]? = some (.inl (.int, 16, .inl (fun _ => 0))) := ab_other e690 (by omega) c685
  have c711 : h689[b+20]? = some (.inl (.int, 768, .inl (fun _ => 0))) := ab_other e690 (by omega) c686
  have c712 : h689[b+21]? = some (.inl (.int, 16, .inl (fun _ => 0))) := ab_other e690 (by omega) c665
  have l713 : h689.length = b + 22 := by rw [e690]; exact List.length_set.trans l688
  have fr714 : ab_fr (in_up b) h h689 := ab_fr_set fr687 e690 (by first | (show _ ∧ _; omega) | (show _ ∨ _; omega) | (show _ = _; omega) | (show _ ≤ _; omega))
  clear c666 c667 c668 c669 c670 c671 c672 c673 c674 c675 c676 c677 c678 c679 c680 c681 c682 c683 c684 c685 c686 c665 l688 fr687 e690
  try clear h661
  refine ab_aload_n d_MText_init_180 rfl rfl rfl ?_
  refine ab_bipush (v := 16) d_MText_init_181 (by decide) ?_
  refine ab_newaL (N := 16) l713 d_MText_init_183 rfl (k1 143 rfl rfl) tI (Or.inl rfl) (by decide) (by decide) (by decide) (by decide) (by decide) (fun h715 e716 e717 e718 => ?_)
  have c719 : h715[b + 22]? = some (.inl (.int, 16, .inl (fun _ => 0))) := e717
  have c720 : h715[b]? = some (.inr (14, [.ref (b + 1), .int 0, .int 0, .ref (b + 2), .ref (b + 3), .ref (b + 4), .ref (b + 5), .ref (b + 6), .ref (b + 7), .int 0, .int 0, .int 0, .int 0, .ref (b + 8), .ref (b + 9), .ref (b + 10), .int 0, .ref (b + 11), .ref (b + 12), .ref (b + 13), .ref (b + 14), .int 0, .ref (b + 15), .ref (b + 16), .ref (b + 17), .ref (b + 18), .int 0, .ref (b + 19), .ref (b + 20), .int 0, .ref (b + 21), .null, .null, .null, .null, .null, .null, .int 0, .null, .null, .null, .int 0, .int 0])) := (e718 _ (by omega)).trans c691
  have c721 : h715[b+1]? = some (.inl (.byte, 6000, .inl (fun _ => 0))) := (e718 _ (by omega)).trans c692
  have c722 : h715[b+2]? = some (.inl (.int, 6002, .inl (fun _ => 0))) := (e718 _ (by omega)).trans c693
  have c723 : h715[b+3]? = some (.inl (.int, 6002, .inl (fun _ => 0))) := (e718 _ (by omega)).trans c694
  have c724 : h715[b+4]? = some (.inl (.int, 6002, .inl (fun _ => 0))) := (e718 _ (by omega)).trans c695
  have c725 : h715[b+5]? = some (.inl (.int, 6002, .inl (fun _ => 0))) := (e718 _ (by omega)).trans c696
  have c726 : h715[b+6]? = some (.inl (.boolean, 6002, .inl (fun _ => 0))) := (e718 _ (by omega)).trans c697
  have c727 : h715[b+7]? = some (.inl (.int, 6002, .inl (fun _ => 0))) := (e718 _ (by omega)).trans c698
  have c728 : h715[b+8]? = some (.inl (.int, 56, .inl (fun _ => 0))) := (e718 _ (by omega)).trans c699
  have c729 : h715[b+9]? = some (.inl (.int, 56, .inl (fun _ => 0))) := (e718 _ (by omega)).trans c700
  have c730 : h715[b+10]? = some (.inl (.int, 56, .inl (fun _ => 0))) := (e718 _ (by omega)).trans c701
  have c731 : h715[b+11]? = some (.inl (.int, 16, .inl (fun _ => 0))) := (e718 _ (by omega)).trans c702
  have c732 : h715[b+12]? = some (.inl (.int, 17, .inl (fun _ => 0))) := (e718 _ (by omega)).trans c703
  have c733 : h715[b+13]? = some (.inl (.int, 48, .inl (fun _ => 0))) := (e718 _ (by omega)).trans c704
  have c734 : h715[b+14]? = some (.inl (.int, 48, .inl (fun _ => 0))) := (e718 _ (by omega)).trans c705
  have c735 : h715[b+15]? = some (.inl (.int, 8, .inl (fun _ => 0))) := (e718 _ (by omega)).trans c706
  have c736 : h715[b+16]? = some (.inl (.int, 8, .inl (fun _ => 0))) := (e718 _ (by omega)).trans c707
  have c737 : h715[b+17]? = some (.inl (.int, 32, .inl (fun _ => 0))) := (e718 _ (by omega)).trans c708
  have c738 : h715[b+18]? = some (.inl (.int, 32, .inl (fun _ => 0))) := (e718 _ (by omega)).trans c709
  have c739 : h715[b+19]? = some (.inl (.int, 16, .inl (fun _ => 0))) := (e718 _ (by omega)).trans c710
  have c740 : h715[b+20]? = some (.inl (.int, 768, .inl (fun _ => 0))) := (e718 _ (by omega)).trans c711
  have c741 : h715[b+21]? = some (.inl (.int, 16, .inl (fun _ => 0))) := (e718 _ (by omega)).trans c712
  have fr742 : ab_fr (in_up b) h h715 := ab_fr_new fr714 e718 e716 l713
  have l743 : h715.length = b + 23 := e716
  clear c691 c692 c693 c694 c695 c696 c697 c698 c699 c700 c701 c702 c703 c704 c705 c706 c707 c708 c709 c710 c711 c712 e716 e717 e718 l713 fr714
  try clear h689
  refine ab_putF (f := 31) d_MText_init_185 c720 rfl (by decide) (k8 215 rfl rfl) rfl rfl rfl rfl (fun _ => rfl) (fun _ => rfl) (Nat.le_of_ble_eq_true rfl) ?_
  show ab_V _ _ _ _ _ _ _ 188 [some (.ref b)] [] (h715.set b (.inr (14, [.ref (b + 1), .int 0, .int 0, .ref (b + 2), .ref (b + 3), .ref (b + 4), .ref (b + 5), .ref (b + 6), .ref (b + 7), .int 0, .int 0, .int 0, .int 0, .ref (b + 8), .ref (b + 9), .ref (b + 10), .int 0, .ref (b + 11), .ref (b + 12), .ref (b + 13), .ref (b + 14), .int 0, .ref (b + 15), .ref (b + 16), .ref (b + 17), .ref (b + 18), .int 0, .ref (b + 19), .ref (b + 20), .int 0, .ref (b + 21), .ref (b + 22), .null, .null, .null, .null, .null, .int 0, .null, .null, .null, .int 0, .int 0])))
  refine ab_gen (fun h744 e745 => ?_)
  have c746 : h744[b]? = some (.inr (14, [.ref (b + 1), .int 0, .int 0, .ref (b + 2), .ref (b + 3), .ref (b + 4), .ref (b + 5), .ref (b + 6), .ref (b + 7), .int 0, .int 0, .int 0, .int 0, .ref (b + 8), .ref (b + 9), .ref (b + 10), .int 0, .ref (b + 11), .ref (b + 12), .ref (b + 13), .ref (b + 14), .int 0, .ref (b + 15), .ref (b + 16), .ref (b + 17), .ref (b + 18), .int 0, .ref (b + 19), .ref (b + 20), .int 0, .ref (b + 21), .ref (b + 22), .null, .null, .null, .null, .null, .int 0, .null, .null, .null, .int 0, .int 0])) := ab_self e745 c720
  have c747 : h744[b+1]? = some (.inl (.byte, 6000, .inl (fun _ => 0))) := ab_other e745 (by omega) c721
  have c748 : h744[b+2]? = some (.inl (.int, 6002, .inl (fun _ => 0))) := ab_other e745 (by omega) c722
  have c749 : h744[b+3]? = some (.inl (.int, 6002, .inl (fun _ => 0))) := ab_other e745 (by omega) c723
  have c750 : h744[b+4]? = some (.inl (.int, 6002, .inl (fun _ => 0))) := ab_other e745 (by omega) c724
  have c751 : h744[b+5]? = some (.inl (.int, 6002, .inl (fun _ => 0))) := ab_other e745 (by omega) c725
  have c752 : h744[b+6]? = some (.inl (.boolean, 6002, .inl (fun _ => 0))) := ab_other e745 (by omega) c726
  have c753 : h744[b+7]? = some (.inl (.int, 6002, .inl (fun _ => 0))) := ab_other e745 (by omega) c727
  have c754 : h744[b+8]? = some (.inl (.int, 56, .inl (fun _ => 0))) := ab_other e745 (by omega) c728
  have c755 : h744[b+9]? = some (.inl (.int, 56, .inl (fun _ => 0))) := ab_other e745 (by omega) c729
  have c756 : h744[b+10]? = some (.inl (.int, 56, .inl (fun _ => 0))) := ab_other e745 (by omega) c730
  have c757 : h744[b+11]? = some (.inl (.int, 16, .inl (fun _ => 0))) := ab_other e745 (by omega) c731
  have c758 : h744[b+12]? = some (.inl (.int, 17, .inl (fun _ => 0))) := ab_other e745 (by omega) c732
  have c759 : h744[b+13]? = some (.inl (.int, 48, .inl (fun _ => 0))) := ab_other e745 (by omega) c733
  have c760 : h744[b+14]? = some (.inl (.int, 48, .inl (fun _ => 0))) := ab_other e745 (by omega) c734
  have c761 : h744[b+15]? = some (.inl (.int, 8, .inl (fun _ => 0))) := ab_other e745 (by omega) c735
  have c762 : h744[b+16]? = some (.inl (.int, 8, .inl (fun _ => 0))) := ab_other e745 (by omega) c736
  have c763 : h744[b+17]? = some (.inl (.int, 32, .inl (fun _ => 0))) := ab_other e745 (by omega) c737
  have c764 : h744[b+18]? = some (.inl (.int, 32, .inl (fun _ => 0))) := ab_other e745 (by omega) c738
  have c765 : h744[b+19]? = some (.inl (.int, 16, .inl (fun _ => 0))) := ab_other e745 (by omega) c739
  have c766 : h744[b+20]? = some (.inl (.int, 768, .inl (fun _ => 0))) := ab_other e745 (by omega) c740
  have c767 : h744[b+21]? = some (.inl (.int, 16, .inl (fun _ => 0))) := ab_other e745 (by omega) c741
  have c768 : h744[b+22]? = some (.inl (.int, 16, .inl (fun _ => 0))) := ab_other e745 (by omega) c719
  have l769 : h744.length = b + 23 := by rw [e745]; exact List.length_set.trans l743
  have fr770 : ab_fr (in_up b) h h744 := ab_fr_set fr742 e745 (by first | (show _ ∧ _; omega) | (show _ ∨ _; omega) | (show _ = _; omega) | (show _ ≤ _; omega))
  clear c720 c721 c722 c723 c724 c725 c726 c727 c728 c729 c730 c731 c732 c733 c734 c735 c736 c737 c738 c739 c740 c741 c719 l743 fr742 e745
  try clear h715
  refine ab_aload_n d_MText_init_188 rfl rfl rfl ?_
  refine ab_bipush (v := 16) d_MText_init_189 (by decide) ?_
  refine ab_newaL (N := 16) l769 d_MText_init_191 rfl (k1 143 rfl rfl) tI (Or.inl rfl) (by decide) (by decide) (by decide) (by decide) (by decide) (fun h771 e772 e773 e774 => ?_)
  have c775 : h771[b + 23]? = some (.inl (.int, 16, .inl (fun _ => 0))) := e773
  have c776 : h771[b]? = some (.inr (14, [.ref (b + 1), .int 0, .int 0, .ref (b + 2), .ref (b + 3), .ref (b + 4), .ref (b + 5), .ref (b + 6), .ref (b + 7), .int 0, .int 0, .int 0, .int 0, .ref (b + 8), .ref (b + 9), .ref (b + 10), .int 0, .ref (b + 11), .ref (b + 12), .ref (b + 13), .ref (b + 14), .int 0, .ref (b + 15), .ref (b + 16), .ref (b + 17), .ref (b + 18), .int 0, .ref (b + 19), .ref (b + 20), .int 0, .ref (b + 21), .ref (b + 22), .null, .null, .null, .null, .null, .int 0, .null, .null, .null, .int 0, .int 0])) := (e774 _ (by omega)).trans c746
  have c777 : h771[b+1]? = some (.inl (.byte, 6000, .inl (fun _ => 0))) := (e774 _ (by omega)).trans c747
  have c778 : h771[b+2]? = some (.inl (.int, 6002, .inl (fun _ => 0))) := (e774 _ (by omega)).trans c748
  have c779 : h771[b+3]? = some (.inl (.int, 6002, .inl (fun _ => 0))) := (e774 _ (by omega)).trans c749
  have c780 : h771[b+4]? = some (.inl (.int, 6002, .inl (fun _ => 0))) := (e774 _ (by omega)).trans c750
  have c781 : h771[b+5]? = some (.inl (.int, 6002, .inl (fun _ => 0))) := (e774 _ (by omega)).trans c751
  have c782 : h771[b+6]? = some (.inl (.boolean, 6002, .inl (fun _ => 0))) := (e774 _ (by omega)).trans c752
  have c783 : h771[b+7]? = some (.inl (.int, 6002, .inl (fun _ => 0))) := (e774 _ (by omega)).trans c753
  have c784 : h771[b+8]? = some (.inl (.int, 56, .inl (fun _ => 0))) := (e774 _ (by omega)).trans c754
  have c785 : h771[b+9]? = some (.inl (.int, 56, .inl (fun _ => 0))) := (e774 _ (by omega)).trans c755
  have c786 : h771[b+10]? = some (.inl (.int, 56, .inl (fun _ => 0))) := (e774 _ (by omega)).trans c756
  have c787 : h771[b+11]? = some (.inl (.int, 16, .inl (fun _ => 0))) := (e774 _ (by omega)).trans c757
  have c788 : h771[b+12]? = some (.inl (.int, 17, .inl (fun _ => 0))) := (e774 _ (by omega)).trans c758
  have c789 : h771[b+13]? = some (.inl (.int, 48, .inl (fun _ => 0))) := (e774 _ (by omega)).trans c759
  have c790 : h771[b+14]? = some (.inl (.int, 48, .inl (fun _ => 0))) := (e774 _ (by omega)).trans c760
  have c791 : h771[b+15]? = some (.inl (.int, 8, .inl (fun _ => 0))) := (e774 _ (by omega)).trans c761
  have c792 : h771[b+16]? = some (.inl (.int, 8, .inl (fun _ => 0))) := (e774 _ (by omega)).trans c762
  have c793 : h771[b+17]? = some (.inl (.int, 32, .inl (fun _ => 0))) := (e774 _ (by omega)).trans c763
  have c794 : h771[b+18]? = some (.inl (.int, 32, .inl (fun _ => 0))) := (e774 _ (by omega)).trans c764
  have c795 : h771[b+19]? = some (.inl (.int, 16, .inl (fun _ => 0))) := (e774 _ (by omega)).trans c765
  have c796 : h771[b+20]? = some (.inl (.int, 768, .inl (fun _ => 0))) := (e774 _ (by omega)).trans c766
  have c797 : h771[b+21]? = some (.inl (.int, 16, .inl (fun _ => 0))) := (e774 _ (by omega)).trans c767
  have c798 : h771[b+22]? = some (.inl (.int, 16, .inl (fun _ => 0))) := (e774 _ (by omega)).trans c768
  have fr799 : ab_fr (in_up b) h h771 := ab_fr_new fr770 e774 e772 l769
  have l800 : h771.length = b + 24 := e772
  clear c746 c747 c748 c749 c750 c751 c752 c753 c754 c755 c756 c757 c758 c759 c760 c761 c762 c763 c764 c765 c766 c767 c768 e772 e773 e774 l769 fr770
  try clear h744
  refine ab_putF (f := 32) d_MText_init_193 c776 rfl (by decide) (k8 216 rfl rfl) rfl rfl rfl rfl (fun _ => rfl) (fun _ => rfl) (Nat.le_of_ble_eq_true rfl) ?_
  show ab_V _ _ _ _ _ _ _ 196 [some (.ref b)] [] (h771.set b (.inr (14, [.ref (b + 1), .int 0, .int 0, .ref (b + 2), .ref (b + 3), .ref (b + 4), .ref (b + 5), .ref (b + 6), .ref (b + 7), .int 0, .int 0, .int 0, .int 0, .ref (b + 8), .ref (b + 9), .ref (b + 10), .int 0, .ref (b + 11), .ref (b + 12), .ref (b + 13), .ref (b + 14), .int 0, .ref (b + 15), .ref (b + 16), .ref (b + 17), .ref (b + 18), .int 0, .ref (b + 19), .ref (b + 20), .int 0, .ref (b + 21), .ref (b + 22), .ref (b + 23), .null, .null, .null, .null, .int 0, .null, .null, .null, .int 0, .int 0])))
  refine ab_gen (fun h801 e802 => ?_)
  have c803 : h801[b]? = some (.inr (14, [.ref (b + 1), .int 0, .int 0, .ref (b + 2), .ref (b + 3), .ref (b + 4), .ref (b + 5), .ref (b + 6), .ref (b + 7), .int 0, .int 0, .int 0, .int 0, .ref (b + 8), .ref (b + 9), .ref (b + 10), .int 0, .ref (b + 11), .ref (b + 12), .ref (b + 13), .ref (b + 14), .int 0, .ref (b + 15), .ref (b + 16), .ref (b + 17), .ref (b + 18), .int 0, .ref (b + 19), .ref (b + 20), .int 0, .ref (b + 21), .ref (b + 22), .ref (b + 23), .null, .null, .null, .null, .int 0, .null, .null, .null, .int 0, .int 0])) := ab_self e802 c776
  have c804 : h801[b+1]? = some (.inl (.byte, 6000, .inl (fun _ => 0))) := ab_other e802 (by omega) c777
  have c805 : h801[b+2]? = some (.inl (.int, 6002, .inl (fun _ => 0))) := ab_other e802 (by omega) c778
  have c806 : h801[b+3]? = some (.inl (.int, 6002, .inl (fun _ => 0))) := ab_other e802 (by omega) c779
  have c807 : h801[b+4]? = some (.inl (.int, 6002, .inl (fun _ => 0))) := ab_other e802 (by omega) c780
  have c808 : h801[b+5]? = some (.inl (.int, 6002, .inl (fun _ => 0))) := ab_other e802 (by omega) c781
  have c809 : h801[b+6]? = some (.inl (.boolean, 6002, .inl (fun _ => 0))) := ab_other e802 (by omega) c782
  have c810 : h801[b+7]? = some (.inl (.int, 6002, .inl (fun _ => 0))) := ab_other e802 (by omega) c783
  have c811 : h801[b+8]? = some (.inl (.int, 56, .inl (fun _ => 0))) := ab_other e802 (by omega) c784
  have c812 : h801[b+9]? = some (.inl (.int, 56, .inl (fun _ => 0))) := ab_other e802 (by omega) c785
  have c813 : h801[b+10]? = some (.inl (.int, 56, .inl (fun _ => 0))) := ab_other e802 (by omega) c786
  have c814 : h801[b+11]? = some (.inl (.int, 16, .inl (fun _ => 0))) := ab_other e802 (by omega) c787
  have c815 : h801[b+12]? = some (.inl (.int, 17, .inl (fun _ => 0))) := ab_other e802 (by omega) c788
  have c816 : h801[b+13]? = some (.inl (.int, 48, .inl (fun _ => 0))) := ab_other e802 (by omega) c789
  have c817 : h801[b+14]? = some (.inl (.int, 48, .inl (fun _ => 0))) := ab_other e802 (by omega) c790
  have c818 : h801[b+15]? = some (.inl (.int, 8, .inl (fun _ => 0))) := ab_other e802 (by omega) c791
  have c819 : h801[b+16]? = some (.inl (.int, 8, .inl (fun _ => 0))) := ab_other e802 (by omega) c792
  have c820 : h801[b+17]? = some (.inl (.int, 32, .inl (fun _ => 0))) := ab_other e802 (by omega) c793
  have c821 : h801[b+18]? = some (.inl (.int, 32, .inl (fun _ => 0))) := ab_other e802 (by omega) c794
  have c822 : h801[b+19]? = some (.inl (.int, 16, .inl (fun _ => 0))) := ab_other e802 (by omega) c795
  have c823 : h801[b+20]? = some (.inl (.int, 768, .inl (fun _ => 0))) := ab_other e802 (by omega) c796
  have c824 : h801[b+21]? = some (.inl (.int, 16, .inl (fun _ => 0))) := ab_other e802 (by omega) c797
  have c825 : h801[b+22]? = some (.inl (.int, 16, .inl (fun _ => 0))) := ab_other e802 (by omega) c798
  have c826 : h801[b+23]? = some (.inl (.int, 16, .inl (fun _ => 0))) := ab_other e802 (by omega) c775
  have l827 : h801.length = b + 24 := by rw [e802]; exact List.length_set.trans l800
  have fr828 : ab_fr (in_up b) h h801 := ab_fr_set fr799 e802 (by first | (show _ ∧ _; omega) | (show _ ∨ _; omega) | (show _ = _; omega) | (show _ ≤ _; omega))
  clear c776 c777 c778 c779 c780 c781 c782 c783 c784 c785 c786 c787 c788 c789 c790 c791 c792 c793 c794 c795 c796 c797 c798 c775 l800 fr799 e802
  try clear h771
  refine ab_aload_n d_MText_init_196 rfl rfl rfl ?_
  refine ab_bipush (v := 16) d_MText_init_197 (by decide) ?_
  refine ab_newaL (N := 16) l827 d_MText_init_199 rfl (k1 143 rfl rfl) tI (Or.inl rfl) (by decide) (by decide) (by decide) (by decide) (by decide) (fun h829 e830 e831 e832 => ?_)
  have c833 : h829[b + 24]? = some (.inl (.int, 16, .inl (fun _ => 0))) := e831
  have c834 : h829[b]? = some (.inr (14, [.ref (b + 1), .int 0, .int 0, .ref (b + 2), .ref (b + 3), .ref (b + 4), .ref (b + 5), .ref (b + 6), .ref (b + 7), .int 0, .int 0, .int 0, .int 0, .ref (b + 8), .ref (b + 9), .ref (b + 10), .int 0, .ref (b + 11), .ref (b + 12), .ref (b + 13), .ref (b + 14), .int 0, .ref (b + 15), .ref (b + 16), .ref (b + 17), .ref (b + 18), .int 0, .ref (b + 19), .ref (b + 20), .int 0, .ref (b + 21), .ref (b + 22), .ref (b + 23), .null, .null, .null, .null, .int 0, .null, .null, .null, .int 0, .int 0])) := (e832 _ (by omega)).trans c803
  have c835 : h829[b+1]? = some (.inl (.byte, 6000, .inl (fun _ => 0))) := (e832 _ (by omega)).trans c804
  have c836 : h829[b+2]? = some (.inl (.int, 6002, .inl (fun _ => 0))) := (e832 _ (by omega)).trans c805
  have c837 : h829[b+3]? = some (.inl (.int, 6002, .inl (fun _ => 0))) := (e832 _ (by omega)).trans c806
  have c838 : h829[b+4]? = some (.inl (.int, 6002, .inl (fun _ => 0))) := (e832 _ (by omega)).trans c807
  have c839 : h829[b+5]? = some (.inl (.int, 6002, .inl (fun _ => 0))) := (e832 _ (by omega)).trans c808
  have c840 : h829[b+6]? = some (.inl (.boolean, 6002, .inl (fun _ => 0))) := (e832 _ (by omega)).trans c809
  have c841 : h829[b+7]? = some (.inl (.int, 6002, .inl (fun _ => 0))) := (e832 _ (by omega)).trans c810
  have c842 : h829[b+8]? = some (.inl (.int, 56, .inl (fun _ => 0))) := (e832 _ (by omega)).trans c811
  have c843 : h829[b+9]? = some (.inl (.int, 56, .inl (fun _ => 0))) := (e832 _ (by omega)).trans c812
  have c844 : h829[b+10]? = some (.inl (.int, 56, .inl (fun _ => 0))) := (e832 _ (by omega)).trans c813
  have c845 : h829[b+11]? = some (.inl (.int, 16, .inl (fun _ => 0))) := (e832 _ (by omega)).trans c814
  have c846 : h829[b+12]? = some (.inl (.int, 17, .inl (fun _ => 0))) := (e832 _ (by omega)).trans c815
  have c847 : h829[b+13]? = some (.inl (.int, 48, .inl (fun _ => 0))) := (e832 _ (by omega)).trans c816
  have c848 : h829[b+14]? = some (.inl (.int, 48, .inl (fun _ => 0))) := (e832 _ (by omega)).trans c817
  have c849 : h829[b+15]? = some (.inl (.int, 8, .inl (fun _ => 0))) := (e832 _ (by omega)).trans c818
  have c850 : h829[b+16]? = some (.inl (.int, 8, .inl (fun _ => 0))) := (e832 _ (by omega)).trans c819
  have c851 : h829[b+17]? = some (.inl (.int, 32, .inl (fun _ => 0))) := (e832 _ (by omega)).trans c820
  have c852 : h829[b+18]? = some (.inl (.int, 32, .inl (fun _ => 0))) := (e832 _ (by omega)).trans c821
  have c853 : h829[b+19]? = some (.inl (.int, 16, .inl (fun _ => 0))) := (e832 _ (by omega)).trans c822
  have c854 : h829[b+20]? = some (.inl (.int, 768, .inl (fun _ => 0))) := (e832 _ (by omega)).trans c823
  have c855 : h829[b+21]? = some (.inl (.int, 16, .inl (fun _ => 0))) := (e832 _ (by omega)).trans c824
  have c856 : h829[b+22]? = some (.inl (.int, 16, .inl (fun _ => 0))) := (e832 _ (by omega)).trans c825
  have c857 : h829[b+23]? = some (.inl (.int, 16, .inl (fun _ => 0))) := (e832 _ (by omega)).trans c826
  have fr858 : ab_fr (in_up b) h h829 := ab_fr_new fr828 e832 e830 l827
  have l859 : h829.length = b + 25 := e830
  clear c803 c804 c805 c806 c807 c808 c809 c810 c811 c812 c813 c814 c815 c816 c817 c818 c819 c820 c821 c822 c823 c824 c825 c826 e830 e831 e832 l827 fr828
  try clear h801
  refine ab_putF (f := 33) d_MText_init_201 c834 rfl (by decide) (k8 217 rfl rfl) rfl rfl rfl rfl (fun _ => rfl) (fun _ => rfl) (Nat.le_of_ble_eq_true rfl) ?_
  show ab_V _ _ _ _ _ _ _ 204 [some (.ref b)] [] (h829.set b (.inr (14, [.ref (b + 1), .int 0, .int 0, .ref (b + 2), .ref (b + 3), .ref (b + 4), .ref (b + 5), .ref (b + 6), .ref (b + 7), .int 0, .int 0, .int 0, .int 0, .ref (b + 8), .ref (b + 9), .ref (b + 10), .int 0, .ref (b + 11), .ref (b + 12), .ref (b + 13), .ref (b + 14), .int 0, .ref (b + 15), .ref (b + 16), .ref (b + 17), .ref (b + 18), .int 0, .ref (b + 19), .ref (b + 20), .int 0, .ref (b + 21), .ref (b + 22), .ref (b + 23), .ref (b + 24), .null, .null, .null, .int 0, .null, .null, .null, .int 0, .int 0])))
  refine ab_gen (fun h860 e861 => ?_)
  have c862 : h860[b]? = some (.inr (14, [.ref (b + 1), .int 0, .int 0, .ref (b + 2), .ref (b + 3), .ref (b + 4), .ref (b + 5), .ref (b + 6), .ref (b + 7), .int 0, .int 0, .int 0, .int 0, .ref (b + 8), .ref (b + 9), .ref (b + 10), .int 0, .ref (b + 11), .ref (b + 12), .ref (b + 13), .ref (b + 14), .int 0, .ref (b + 15), .ref (b + 16), .ref (b + 17), .ref (b + 18), .int 0, .ref (b + 19), .ref (b + 20), .int 0, .ref (b + 21), .ref (b + 22), .ref (b + 23), .ref (b + 24), .null, .null, .null, .int 0, .null, .null, .null, .int 0, .int 0])) := ab_self e861 c834
  have c863 : h860[b+1]? = some (.inl (.byte, 6000, .inl (fun _ => 0))) := ab_other e861 (by omega) c835
  have c864 : h860[b+2]? = some (.inl (.int, 6002, .inl (fun _ => 0))) := ab_other e861 (by omega) c836
  have c865 : h860[b+3]? = some (.inl (.int, 6002, .inl (fun _ => 0))) := ab_other e861 (by omega) c837
  have c866 : h860[b+4]? = some (.inl (.int, 6002, .inl (fun _ => 0))) := ab_other e861 (by omega) c838
  have c867 : h860[b+5]? = some (.inl (.int, 6002, .inl (fun _ => 0))) := ab_other e861 (by omega) c839
  have c868 : h860[b+6]? = some (.inl (.boolean, 6002, .inl (fun _ => 0))) := ab_other e861 (by omega) c840
  have c869 : h860[b+7]? = some (.inl (.int, 6002, .inl (fun _ => 0))) := ab_other e861 (by omega) c841
  have c870 : h860[b+8]? = some (.inl (.int, 56, .inl (fun _ => 0))) := ab_other e861 (by omega) c842
  have c871 : h860[b+9]? = some (.inl (.int, 56, .inl (fun _ => 0))) := ab_other e861 (by omega) c843
  have c872 : h860[b+10]? = some (.inl (.int, 56, .inl (fun _ => 0))) := ab_other e861 (by omega) c844
  have c873 : h860[b+11]? = some (.inl (.int, 16, .inl (fun _ => 0))) := ab_other e861 (by omega) c845
  have c874 : h860[b+12]? = some (.inl (.int, 17, .inl (fun _ => 0))) := ab_other e861 (by omega) c846
  have c875 : h860[b+13]? = some (.inl (.int, 48, .inl (fun _ => 0))) := ab_other e861 (by omega) c847
  have c876 : h860[b+14]? = some (.inl (.int, 48, .inl (fun _ => 0))) := ab_other e861 (by omega) c848
  have c877 : h860[b+15]? = some (.inl (.int, 8, .inl (fun _ => 0))) := ab_other e861 (by omega) c849
  have c878 : h860[b+16]? = some (.inl (.int, 8, .inl (fun _ => 0))) := ab_other e861 (by omega) c850
  have c879 : h860[b+17]? = some (.inl (.int, 32, .inl (fun _ => 0))) := ab_other e861 (by omega) c851
  have c880 : h860[b+18]? = some (.inl (.int, 32, .inl (fun _ => 0))) := ab_other e861 (by omega) c852
  have c881 : h860[b+19]? = some (.inl (.int, 16, .inl (fun _ => 0))) := ab_other e861 (by omega) c853
  have c882 : h860[b+20]? = some (.inl (.int, 768, .inl (fun _ => 0))) := ab_other e861 (by omega) c854
  have c883 : h860[b+21]? = some (.inl (.int, 16, .inl (fun _ => 0))) := ab_other e861 (by omega) c855
  have c884 : h860[b+22]? = some (.inl (.int, 16, .inl (fun _ => 0))) := ab_other e861 (by omega) c856
  have c885 : h860[b+23]? = some (.inl (.int, 16, .inl (fun _ => 0))) := ab_other e861 (by omega) c857
  have c886 : h860[b+24]? = some (.inl (.int, 16, .inl (fun _ => 0))) := ab_other e861 (by omega) c833
  have l887 : h860.length = b + 25 := by rw [e861]; exact List.length_set.trans l859
  have fr888 : ab_fr (in_up b) h h860 := ab_fr_set fr858 e861 (by first | (show _ ∧ _; omega) | (show _ ∨ _; omega) | (show _ = _; omega) | (show _ ≤ _; omega))
  clear c834 c835 c836 c837 c838 c839 c840 c841 c842 c843 c844 c845 c846 c847 c848 c849 c850 c851 c852 c853 c854 c855 c856 c857 c833 l859 fr858 e861
  try clear h829
  refine ab_aload_n d_MText_init_204 rfl rfl rfl ?_
  refine ab_bipush (v := 16) d_MText_init_205 (by decide) ?_
  refine ab_newaL (N := 16) l887 d_MText_init_207 rfl (k1 143 rfl rfl) tI (Or.inl rfl) (by decide) (by decide) (by decide) (by decide) (by decide) (fun h889 e890 e891 e892 => ?_)
  have c893 : h889[b + 25]? = some (.inl (.int, 16, .inl (fun _ => 0))) := e891
  have c894 : h889[b]? = some (.inr (14, [.ref (b + 1), .int 0, .int 0, .ref (b + 2), .ref (b + 3), .ref (b + 4), .ref (b + 5), .ref (b + 6), .ref (b + 7), .int 0, .int 0, .int 0, .int 0, .ref (b + 8), .ref (b + 9), .ref (b + 10), .int 0, .ref (b + 11), .ref (b + 12), .ref (b + 13), .ref (b + 14), .int 0, .ref (b + 15), .ref (b + 16), .ref (b + 17), .ref (b + 18), .int 0, .ref (b + 19), .ref (b + 20), .int 0, .ref (b + 21), .ref (b + 22), .ref (b + 23), .ref (b + 24), .null, .null, .null, .int 0, .null, .null, .null, .int 0, .int 0])) := (e892 _ (by omega)).trans c862
  have c895 : h889[b+1]? = some (.inl (.byte, 6000, .inl (fun _ => 0))) := (e892 _ (by omega)).trans c863
  have c896 : h889[b+2]? = some (.inl (.int, 6002, .inl (fun _ => 0))) := (e892 _ (by omega)).trans c864
  have c897 : h889[b+3]? = some (.inl (.int, 6002, .inl (fun _ => 0))) := (e892 _ (by omega)).trans c865
  have c898 : h889[b+4]? = some (.inl (.int, 6002, .inl (fun _ => 0))) := (e892 _ (by omega)).trans c866
  have c899 : h889[b+5]? = some (.inl (.int, 6002, .inl (fun _ => 0))) := (e892 _ (by omega)).trans c867
  have c900 : h889[b+6]? = some (.inl (.boolean, 6002, .inl (fun _ => 0))) := (e892 _ (by omega)).trans c868
  have c901 : h889[b+7]? = some (.inl (.int, 6002, .inl (fun _ => 0))) := (e892 _ (by omega)).trans c869
  have c902 : h889[b+8]? = some (.inl (.int, 56, .inl (fun _ => 0))) := (e892 _ (by omega)).trans c870
  have c903 : h889[b+9]? = some (.inl (.int, 56, .inl (fun _ => 0))) := (e892 _ (by omega)).trans c871
  have c904 : h889[b+10]? = some (.inl (.int, 56, .inl (fun _ => 0))) := (e892 _ (by omega)).trans c872
  have c905 : h889[b+11]? = some (.inl (.int, 16, .inl (fun _ => 0))) := (e892 _ (by omega)).trans c873
  have c906 : h889[b+12]? = some (.inl (.int, 17, .inl (fun _ => 0))) := (e892 _ (by omega)).trans c874
  have c907 : h889[b+13]? = some (.inl (.int, 48, .inl (fun _ => 0))) := (e892 _ (by omega)).trans c875
  have c908 : h889[b+14]? = some (.inl (.int, 48, .inl (fun _ => 0))) := (e892 _ (by omega)).trans c876
  have c909 : h889[b+15]? = some (.inl (.int, 8, .inl (fun _ => 0))) := (e892 _ (by omega)).trans c877
  have c910 : h889[b+16]? = some (.inl (.int, 8, .inl (fun _ => 0))) := (e892 _ (by omega)).trans c878
  have c911 : h889[b+17]? = some (.inl (.int, 32, .inl (fun _ => 0))) := (e892 _ (by omega)).trans c879
  have c912 : h889[b+18]? = some (.inl (.int, 32, .inl (fun _ => 0))) := (e892 _ (by omega)).trans c880
  have c913 : h889[b+19]? = some (.inl (.int, 16, .inl (fun _ => 0))) := (e892 _ (by omega)).trans c881
  have c914 : h889[b+20]? = some (.inl (.int, 768, .inl (fun _ => 0))) := (e892 _ (by omega)).trans c882
  have c915 : h889[b+21]? = some (.inl (.int, 16, .inl (fun _ => 0))) := (e892 _ (by omega)).trans c883
  have c916 : h889[b+22]? = some (.inl (.int, 16, .inl (fun _ => 0))) := (e892 _ (by omega)).trans c884
  have c917 : h889[b+23]? = some (.inl (.int, 16, .inl (fun _ => 0))) := (e892 _ (by omega)).trans c885
  have c918 : h889[b+24]? = some (.inl (.int, 16, .inl (fun _ => 0))) := (e892 _ (by omega)).trans c886
  have fr919 : ab_fr (in_up b) h h889 := ab_fr_new fr888 e892 e890 l887
  have l920 : h889.length = b + 26 := e890
  clear c862 c863 c864 c865 c866 c867 c868 c869 c870 c871 c872 c873 c874 c875 c876 c877 c878 c879 c880 c881 c882 c883 c884 c885 c886 e890 e891 e892 l887 fr888
  try clear h860
  refine ab_putF (f := 34) d_MText_init_209 c894 rfl (by decide) (k8 218 rfl rfl) rfl rfl rfl rfl (fun _ => rfl) (fun _ => rfl) (Nat.le_of_ble_eq_true rfl) ?_
  show ab_V _ _ _ _ _ _ _ 212 [some (.ref b)] [] (h889.set b (.inr (14, [.ref (b + 1), .int 0, .int 0, .ref (b + 2), .ref (b + 3), .ref (b + 4), .ref (b + 5), .ref (b + 6), .ref (b + 7), .int 0, .int 0, .int 0, .int 0, .ref (b + 8), .ref (b + 9), .ref (b + 10), .int 0, .ref (b + 11), .ref (b + 12), .ref (b + 13), .ref (b + 14), .int 0, .ref (b + 15), .ref (b + 16), .ref (b + 17), .ref (b + 18), .int 0, .ref (b + 19), .ref (b + 20), .int 0, .ref (b + 21), .ref (b + 22), .ref (b + 23), .ref (b + 24), .ref (b + 25), .null, .null, .int 0, .null, .null, .null, .int 0, .int 0])))
  refine ab_gen (fun h921 e922 => ?_)
  have c923 : h921[b]? = some (.inr (14, [.ref (b + 1), .int 0, .int 0, .ref (b + 2), .ref (b + 3), .ref (b + 4), .ref (b + 5), .ref (b + 6), .ref (b + 7), .int 0, .int 0, .int 0, .int 0, .ref (b + 8), .ref (b + 9), .ref (b + 10), .int 0, .ref (b + 11), .ref (b + 12), .ref (b + 13), .ref (b + 14), .int 0, .ref (b + 15), .ref (b + 16), .ref (b + 17), .ref (b + 18), .int 0, .ref (b + 19), .ref (b + 20), .int 0, .ref (b + 21), .ref (b + 22), .ref (b + 23), .ref (b + 24), .ref (b + 25), .null, .null, .int 0, .null, .null, .null, .int 0, .int 0])) := ab_self e922 c894
  have c924 : h921[b+1]? = some (.inl (.byte, 6000, .inl (fun _ => 0))) := ab_other e922 (by omega) c895
  have c925 : h921[b+2]? = some (.inl (.int, 6002, .inl (fun _ => 0))) := ab_other e922 (by omega) c896
  have c926 : h921[b+3]? = some (.inl (.int, 6002, .inl (fun _ => 0))) := ab_other e922 (by omega) c897
  have c927 : h921[b+4]? = some (.inl (.int, 6002, .inl (fun _ => 0))) := ab_other e922 (by omega) c898
  have c928 : h921[b+5]? = some (.inl (.int, 6002, .inl (fun _ => 0))) := ab_other e922 (by omega) c899
  have c929 : h921[b+6]? = some (.inl (.boolean, 6002, .inl (fun _ => 0))) := ab_other e922 (by omega) c900
  have c930 : h921[b+7]? = some (.inl (.int, 6002, .inl (fun _ => 0))) := ab_other e922 (by omega) c901
  have c931 : h921[b+8]? = some (.inl (.int, 56, .inl (fun _ => 0))) := ab_other e922 (by omega) c902
  have c932 : h921[b+9]? = some (.inl (.int, 56, .inl (fun _ => 0))) := ab_other e922 (by omega) c903
  have c933 : h921[b+10]? = some (.inl (.int, 56, .inl (fun _ => 0))) := ab_other e922 (by omega) c904
  have c934 : h921[b+11]? = some (.inl (.int, 16, .inl (fun _ => 0))) := ab_other e922 (by omega) c905
  have c935 : h921[b+12]? = some (.inl (.int, 17, .inl (fun _ => 0))) := ab_other e922 (by omega) c906
  have c936 : h921[b+13]? = some (.inl (.int, 48, .inl (fun _ => 0))) := ab_other e922 (by omega) c907
  have c937 : h921[b+14]? = some (.inl (.int, 48, .inl (fun _ => 0))) := ab_other e922 (by omega) c908
  have c938 : h921[b+15]? = some (.inl (.int, 8, .inl (fun _ => 0))) := ab_other e922 (by omega) c909
  have c939 : h921[b+16]? = some (.inl (.int, 8, .inl (fun _ => 0))) := ab_other e922 (by omega) c910
  have c940 : h921[b+17]? = some (.inl (.int, 32, .inl (fun _ => 0))) := ab_other e922 (by omega) c911
  have c941 : h921[b+18]? = some (.inl (.int, 32, .inl (fun _ => 0))) := ab_other e922 (by omega) c912
  have c942 : h921[b+19]? = some (.inl (.int, 16, .inl (fun _ => 0))) := ab_other e922 (by omega) c913
  have c943 : h921[b+20]? = some (.inl (.int, 768, .inl (fun _ => 0))) := ab_other e922 (by omega) c914
  have c944 : h921[b+21]? = some (.inl (.int, 16, .inl (fun _ => 0))) := ab_other e922 (by omega) c915
  have c945 : h921[b+22]? = some (.inl (.int, 16, .inl (fun _ => 0))) := ab_other e922 (by omega) c916
  have c946 : h921[b+23]? = some (.inl (.int, 16, .inl (fun _ => 0))) := ab_other e922 (by omega) c917
  have c947 : h921[b+24]? = some (.inl (.int, 16, .inl (fun _ => 0))) := ab_other e922 (by omega) c918
  have c948 : h921[b+25]? = some (.inl (.int, 16, .inl (fun _ => 0))) := ab_other e922 (by omega) c893
  have l949 : h921.length = b + 26 := by rw [e922]; exact List.length_set.trans l920
  have fr950 : ab_fr (in_up b) h h921 := ab_fr_set fr919 e922 (by first | (show _ ∧ _; omega) | (show _ ∨ _; omega) | (show _ = _; omega) | (show _ ≤ _; omega))
  clear c894 c895 c896 c897 c898 c899 c900 c901 c902 c903 c904 c905 c906 c907 c908 c909 c910 c911 c912 c913 c914 c915 c916 c917 c918 c893 l920 fr919 e922
  try clear h889
  refine ab_aload_n d_MText_init_212 rfl rfl rfl ?_
  refine ab_bipush (v := 16) d_MText_init_213 (by decide) ?_
  refine ab_newaL (N := 16) l949 d_MText_init_215 rfl (k1 143 rfl rfl) tI (Or.inl rfl) (by decide) (by decide) (by decide) (by decide) (by decide) (fun h951 e952 e953 e954 => ?_)
  have c955 : h951[b + 26]? = some (.inl (.int, 16, .inl (fun _ => 0))) := e953
  have c956 : h951[b]? = some (.inr (14, [.ref (b + 1), .int 0, .int 0, .ref (b + 2), .ref (b + 3), .ref (b + 4), .ref (b + 5), .ref (b + 6), .ref (b + 7), .int 0, .int 0, .int 0, .int 0, .ref (b + 8), .ref (b + 9), .ref (b + 10), .int 0, .ref (b + 11), .ref (b + 12), .ref (b + 13), .ref (b + 14), .int 0, .ref (b + 15), .ref (b + 16), .ref (b + 17), .ref (b + 18), .int 0, .ref (b + 19), .ref (b + 20), .int 0, .ref (b + 21), .ref (b + 22), .ref (b + 23), .ref (b + 24), .ref (b + 25), .null, .null, .int 0, .null, .null, .null, .int 0, .int 0])) := (e954 _ (by omega)).trans c923
  have c957 : h951[b+1]? = some (.inl (.byte, 6000, .inl (fun _ => 0))) := (e954 _ (by omega)).trans c924
  have c958 : h951[b+2]? = some (.inl (.int, 6002, .inl (fun _ => 0))) := (e954 _ (by omega)).trans c925
  have c959 : h951[b+3]? = some (.inl (.int, 6002, .inl (fun _ => 0))) := (e954 _ (by omega)).trans c926
  have c960 : h951[b+4]? = some (.inl (.int, 6002, .inl (fun _ => 0))) := (e954 _ (by omega)).trans c927
  have c961 : h951[b+5]? = some (.inl (.int, 6002, .inl (fun _ => 0))) := (e954 _ (by omega)).trans c928
  have c962 : h951[b+6]? = some (.inl (.boolean, 6002, .inl (fun _ => 0))) := (e954 _ (by omega)).trans c929
  have c963 : h951[b+7]? = some (.inl (.int, 6002, .inl (fun _ => 0))) := (e954 _ (by omega)).trans c930
  have c964 : h951[b+8]? = some (.inl (.int, 56, .inl (fun _ => 0))) := (e954 _ (by omega)).trans c931
  have c965 : h951[b+9]? = some (.inl (.int, 56, .inl (fun _ => 0))) := (e954 _ (by omega)).trans c932
  have c966 : h951[b+10]? = some (.inl (.int, 56, .inl (fun _ => 0))) := (e954 _ (by omega)).trans c933
  have c967 : h951[b+11]? = some (.inl (.int, 16, .inl (fun _ => 0))) := (e954 _ (by omega)).trans c934
  have c968 : h951[b+12]? = some (.inl (.int, 17, .inl (fun _ => 0))) := (e954 _ (by omega)).trans c935
  have c969 : h951[b+13]? = some (.inl (.int, 48, .inl (fun _ => 0))) := (e954 _ (by omega)).trans c936
  have c970 : h951[b+14]? = some (.inl (.int, 48, .inl (fun _ => 0))) := (e954 _ (by omega)).trans c937
  have c971 : h951[b+15]? = some (.inl (.int, 8, .inl (fun _ => 0))) := (e954 _ (by omega)).trans c938
  have c972 : h951[b+16]? = some (.inl (.int, 8, .inl (fun _ => 0))) := (e954 _ (by omega)).trans c939
  have c973 : h951[b+17]? = some (.inl (.int, 32, .inl (fun _ => 0))) := (e954 _ (by omega)).trans c940
  have c974 : h951[b+18]? = some (.inl (.int, 32, .inl (fun _ => 0))) := (e954 _ (by omega)).trans c941
  have c975 : h951[b+19]? = some (.inl (.int, 16, .inl (fun _ => 0))) := (e954 _ (by omega)).trans c942
  have c976 : h951[b+20]? = some (.inl (.int, 768, .inl (fun _ => 0))) := (e954 _ (by omega)).trans c943
  have c977 : h951[b+21]? = some (.inl (.int, 16, .inl (fun _ => 0))) := (e954 _ (by omega)).trans c944
  have c978 : h951[b+22]? = some (.inl (.int, 16, .inl (fun _ => 0))) := (e954 _ (by omega)).trans c945
  have c979 : h951[b+23]? = some (.inl (.int, 16, .inl (fun _ => 0))) := (e954 _ (by omega)).trans c946
  have c980 : h951[b+24]? = some (.inl (.int, 16, .inl (fun _ => 0))) := (e954 _ (by omega)).trans c947
  have c981 : h951[b+25]? = some (.inl (.int, 16, .inl (fun _ => 0))) := (e954 _ (by omega)).trans c948
  have fr982 : ab_fr (in_up b) h h951 := ab_fr_new fr950 e954 e952 l949
  have l983 : h951.length = b + 27 := e952
  clear c923 c924 c925 c926 c927 c928 c929 c930 c931 c932 c933 c934 c935 c936 c937 c938 c939 c940 c941 c942 c943 c944 c945 c946 c947 c948 e952 e953 e954 l949 fr950
  try clear h921
  refine ab_putF (f := 35) d_MText_init_217 c956 rfl (by decide) (k8 219 rfl rfl) rfl rfl rfl rfl (fun _ => rfl) (fun _ => rfl) (Nat.le_of_ble_eq_true rfl) ?_
  show ab_V _ _ _ _ _ _ _ 220 [some (.ref b)] [] (h951.set b (.inr (14, [.ref (b + 1), .int 0, .int 0, .ref (b + 2), .ref (b + 3), .ref (b + 4), .ref (b + 5), .ref (b + 6), .ref (b + 7), .int 0, .int 0, .int 0, .int 0, .ref (b + 8), .ref (b + 9), .ref (b + 10), .int 0, .ref (b + 11), .ref (b + 12), .ref (b + 13), .ref (b + 14), .int 0, .ref (b + 15), .ref (b + 16), .ref (b + 17), .ref (b + 18), .int 0, .ref (b + 19), .ref (b + 20), .int 0, .ref (b + 21), .ref (b + 22), .ref (b + 23), .ref (b + 24), .ref (b + 25), .ref (b + 26), .null, .int 0, .null, .null, .null, .int 0, .int 0])))
  refine ab_gen (fun h984 e985 => ?_)
  have c986 : h984[b]? = some (.inr (14, [.ref (b + 1), .int 0, .int 0, .ref (b + 2), .ref (b + 3), .ref (b + 4), .ref (b + 5), .ref (b + 6), .ref (b + 7), .int 0, .int 0, .int 0, .int 0, .ref (b + 8), .ref (b + 9), .ref (b + 10), .int 0, .ref (b + 11), .ref (b + 12), .ref (b + 13), .ref (b + 14), .int 0, .ref (b + 15), .ref (b + 16), .ref (b + 17), .ref (b + 18), .int 0, .ref (b + 19), .ref (b + 20), .int 0, .ref (b + 21), .ref (b + 22), .ref (b + 23), .ref (b + 24), .ref (b + 25), .ref (b + 26), .null, .int 0, .null, .null, .null, .int 0, .int 0])) := ab_self e985 c956
  have c987 : h984[b+1]? = some (.inl (.byte, 6000, .inl (fun _ => 0))) := ab_other e985 (by omega) c957
  have c988 : h984[b+2]? = some (.inl (.int, 6002, .inl (fun _ => 0))) := ab_other e985 (by omega) c958
  have c989 : h984[b+3]? = some (.inl (.int, 6002, .inl (fun _ => 0))) := ab_other e985 (by omega) c959
  have c990 : h984[b+4]? = some (.inl (.int, 6002, .inl (fun _ => 0))) := ab_other e985 (by omega) c960
  have c991 : h984[b+5]? = some (.inl (.int, 6002, .inl (fun _ => 0))) := ab_other e985 (by omega) c961
  have c992 : h984[b+6]? = some (.inl (.boolean, 6002, .inl (fun _ => 0))) := ab_other e985 (by omega) c962
  have c993 : h984[b+7]? = some (.inl (.int, 6002, .inl (fun _ => 0))) := ab_other e985 (by omega) c963
  have c994 : h984[b+8]? = some (.inl (.int, 56, .inl (fun _ => 0))) := ab_other e985 (by omega) c964
  have c995 : h984[b+9]? = some (.inl (.int, 56, .inl (fun _ => 0))) := ab_other e985 (by omega) c965
  have c996 : h984[b+10]? = some (.inl (.int, 56, .inl (fun _ => 0))) := ab_other e985 (by omega) c966
  have c997 : h984[b+11]? = some (.inl (.int, 16, .inl (fun _ => 0))) := ab_other e985 (by omega) c967
  have c998 : h984[b+12]? = some (.inl (.int, 17, .inl (fun _ => 0))) := ab_other e985 (by omega) c968
  have c999 : h984[b+13]? = some (.inl (.int, 48, .inl (fun _ => 0))) := ab_other e985 (by omega) c969
  have c1000 : h984[b+14]? = some (.inl (.int, 48, .inl (fun _ => 0))) := ab_other e985 (by omega) c970
  have c1001 : h984[b+15]? = some (.inl (.int, 8, .inl (fun _ => 0))) := ab_other e985 (by omega) c971
  have c1002 : h984[b+16]? = some (.inl (.int, 8, .inl (fun _ => 0))) := ab_other e985 (by omega) c972
  have c1003 : h984[b+17]? = some (.inl (.int, 32, .inl (fun _ => 0))) := ab_other e985 (by omega) c973
  have c1004 : h984[b+18]? = some (.inl (.int, 32, .inl (fun _ => 0))) := ab_other e985 (by omega) c974
  have c1005 : h984[b+19]? = some (.inl (.int, 16, .inl (fun _ => 0))) := ab_other e985 (by omega) c975
  have c1006 : h984[b+20]? = some (.inl (.int, 768, .inl (fun _ => 0))) := ab_other e985 (by omega) c976
  have c1007 : h984[b+21]? = some (.inl (.int, 16, .inl (fun _ => 0))) := ab_other e985 (by omega) c977
  have c1008 : h984[b+22]? = some (.inl (.int, 16, .inl (fun _ => 0))) := ab_other e985 (by omega) c978
  have c1009 : h984[b+23]? = some (.inl (.int, 16, .inl (fun _ => 0))) := ab_other e985 (by omega) c979
  have c1010 : h984[b+24]? = some (.inl (.int, 16, .inl (fun _ => 0))) := ab_other e985 (by omega) c980
  have c1011 : h984[b+25]? = some (.inl (.int, 16, .inl (fun _ => 0))) := ab_other e985 (by omega) c981
  have c1012 : h984[b+26]? = some (.inl (.int, 16, .inl (fun _ => 0))) := ab_other e985 (by omega) c955
  have l1013 : h984.length = b + 27 := by rw [e985]; exact List.length_set.trans l983
  have fr1014 : ab_fr (in_up b) h h984 := ab_fr_set fr982 e985 (by first | (show _ ∧ _; omega) | (show _ ∨ _; omega) | (show _ = _; omega) | (show _ ≤ _; omega))
  clear c956 c957 c958 c959 c960 c961 c962 c963 c964 c965 c966 c967 c968 c969 c970 c971 c972 c973 c974 c975 c976 c977 c978 c979 c980 c981 c955 l983 fr982 e985
  try clear h951
  refine ab_aload_n d_MText_init_220 rfl rfl rfl ?_
  refine ab_bipush (v := 16) d_MText_init_221 (by decide) ?_
  refine ab_newaL (N := 16) l1013 d_MText_init_223 rfl (k1 143 rfl rfl) tI (Or.inl rfl) (by decide) (by decide) (by decide) (by decide) (by decide) (fun h1015 e1016 e1017 e1018 => ?_)
  have c1019 : h1015[b + 27]? = some (.inl (.int, 16, .inl (fun _ => 0))) := e1017
  have c1020 : h1015[b]? = some (.inr (14, [.ref (b + 1), .int 0, .int 0, .ref (b + 2), .ref (b + 3), .ref (b + 4), .ref (b + 5), .ref (b + 6), .ref (b + 7), .int 0, .int 0, .int 0, .int 0, .ref (b + 8), .ref (b + 9), .ref (b + 10), .int 0, .ref (b + 11), .ref (b + 12), .ref (b + 13), .ref (b + 14), .int 0, .ref (b + 15), .ref (b + 16), .ref (b + 17), .ref (b + 18), .int 0, .ref (b + 19), .ref (b + 20), .int 0, .ref (b + 21), .ref (b + 22), .ref (b + 23), .ref (b + 24), .ref (b + 25), .ref (b + 26), .null, .int 0, .null, .null, .null, .int 0, .int 0])) := (e1018 _ (by omega)).trans c986
  have c1021 : h1015[b+1]? = some (.inl (.byte, 6000, .inl (fun _ => 0))) := (e1018 _ (by omega)).trans c987
  have c1022 : h1015[b+2]? = some (.inl (.int, 6002, .inl (fun _ => 0))) := (e1018 _ (by omega)).trans c988
  have c1023 : h1015[b+3]? = some (.inl (.int, 6002, .inl (fun _ => 0))) := (e1018 _ (by omega)).trans c989
  have c1024 : h1015[b+4]? = some (.inl (.int, 6002, .inl (fun _ => 0))) := (e1018 _ (by omega)).trans c990
  have c1025 : h1015[b+5]? = some (.inl (.int, 6002, .inl (fun _ => 0))) := (e1018 _ (by omega)).trans c991
  have c1026 : h1015[b+6]? = some (.inl (.boolean, 6002, .inl (fun _ => 0))) := (e1018 _ (by omega)).trans c992
  have c1027 : h1015[b+7]? = some (.inl (.int, 6002, .inl (fun _ => 0))) := (e1018 _ (by omega)).trans c993
  have c1028 : h1015[b+8]? = some (.inl (.int, 56, .inl (fun _ => 0))) := (e1018 _ (by omega)).trans c994
  have c1029 : h1015[b+9]? = some (.inl (.int, 56, .inl (fun _ => 0))) := (e1018 _ (by omega)).trans c995
  have c1030 : h1015[b+10]? = some (.inl (.int, 56, .inl (fun _ => 0))) := (e1018 _ (by omega)).trans c996
  have c1031 : h1015[b+11]? = some (.inl (.int, 16, .inl (fun _ => 0))) := (e1018 _ (by omega)).trans c997
  have c1032 : h1015[b+12]? = some (.inl (.int, 17, .inl (fun _ => 0))) := (e1018 _ (by omega)).trans c998
  have c1033 : h1015[b+13]? = some (.inl (.int, 48, .inl (fun _ => 0))) := (e1018 _ (by omega)).trans c999
  have c1034 : h1015[b+14]? = some (.inl (.int, 48, .inl (fun _ => 0))) := (e1018 _ (by omega)).trans c1000
  have c1035 : h1015[b+15]? = some (.inl (.int, 8, .inl (fun _ => 0))) := (e1018 _ (by omega)).trans c1001
  have c1036 : h1015[b+16]? = some (.inl (.int, 8, .inl (fun _ => 0))) := (e1018 _ (by omega)).trans c1002
  have c1037 : h1015[b+17]? = some (.inl (.int, 32, .inl (fun _ => 0))) := (e1018 _ (by omega)).trans c1003
  have c1038 : h1015[b+18]? = some (.inl (.int, 32, .inl (fun _ => 0))) := (e1018 _ (by omega)).trans c1004
  have c1039 : h1015[b+19]? = some (.inl (.int, 16, .inl (fun _ => 0))) := (e1018 _ (by omega)).trans c1005
  have c1040 : h1015[b+20]? = some (.inl (.int, 768, .inl (fun _ => 0))) := (e1018 _ (by omega)).trans c1006
  have c1041 : h1015[b+21]? = some (.inl (.int, 16, .inl (fun _ => 0))) := (e1018 _ (by omega)).trans c1007
  have c1042 : h1015[b+22]? = some (.inl (.int, 16, .inl (fun _ => 0))) := (e1018 _ (by omega)).trans c1008
  have c1043 : h1015[b+23]? = some (.inl (.int, 16, .inl (fun _ => 0))) := (e1018 _ (by omega)).trans c1009
  have c1044 : h1015[b+24]? = some (.inl (.int, 16, .inl (fun _ => 0))) := (e1018 _ (by omega)).trans c1010
  have c1045 : h1015[b+25]? = some (.inl (.int, 16, .inl (fun _ => 0))) := (e1018 _ (by omega)).trans c1011
  have c1046 : h1015[b+26]? = some (.inl (.int, 16, .inl (fun _ => 0))) := (e1018 _ (by omega)).trans c1012
  have fr1047 : ab_fr (in_up b) h h1015 := ab_fr_new fr1014 e1018 e1016 l1013
  have l1048 : h1015.length = b + 28 := e1016
  clear c986 c987 c988 c989 c990 c991 c992 c993 c994 c995 c996 c997 c998 c999 c1000 c1001 c1002 c1003 c1004 c1005 c1006 c1007 c1008 c1009 c1010 c1011 c1012 e1016 e1017 e1018 l1013 fr1014
  try clear h984
  refine ab_putF (f := 36) d_MText_init_225 c1020 rfl (by decide) (k8 221 rfl rfl) rfl rfl rfl rfl (fun _ => rfl) (fun _ => rfl) (Nat.le_of_ble_eq_true rfl) ?_
  show ab_V _ _ _ _ _ _ _ 228 [some (.ref b)] [] (h1015.set b (.inr (14, [.ref (b + 1), .int 0, .int 0, .ref (b + 2), .ref (b + 3), .ref (b + 4), .ref (b + 5), .ref (b + 6), .ref (b + 7), .int 0, .int 0, .int 0, .int 0, .ref (b + 8), .ref (b + 9), .ref (b + 10), .int 0, .ref (b + 11), .ref (b + 12), .ref (b + 13), .ref (b + 14), .int 0, .ref (b + 15), .ref (b + 16), .ref (b + 17), .ref (b + 18), .int 0, .ref (b + 19), .ref (b + 20), .int 0, .ref (b + 21), .ref (b + 22), .ref (b + 23), .ref (b + 24), .ref (b + 25), .ref (b + 26), .ref (b + 27), .int 0, .null, .null, .null, .int 0, .int 0])))
  refine ab_gen (fun h1049 e1050 => ?_)
  have c1051 : h1049[b]? = some (.inr (14, [.ref (b + 1), .int 0, .int 0, .ref (b + 2), .ref (b + 3), .ref (b + 4), .ref (b + 5), .ref (b + 6), .ref (b + 7), .int 0, .int 0, .int 0, .int 0, .ref (b + 8), .ref (b + 9), .ref (b + 10), .int 0, .ref (b + 11), .ref (b + 12), .ref (b + 13), .ref (b + 14), .int 0, .ref (b + 15), .ref (b + 16), .ref (b + 17), .ref (b + 18), .int 0, .ref (b + 19), .ref (b + 20), .int 0, .ref (b + 21), .ref (b + 22), .ref (b + 23), .ref (b + 24), .ref (b + 25), .ref (b + 26), .ref (b + 27), .int 0, .null, .null, .null, .int 0, .int 0])) := ab_self e1050 c1020
  have c1052 : h1049[b+1]? = some (.inl (.byte, 6000, .inl (fun _ => 0))) := ab_other e1050 (by omega) c1021
  have c1053 : h1049[b+2]? = some (.inl (.int, 6002, .inl (fun _ => 0))) := ab_other e1050 (by omega) c1022
  have c1054 : h1049[b+3]? = some (.inl (.int, 6002, .inl (fun _ => 0))) := ab_other e1050 (by omega) c1023
  have c1055 : h1049[b+4]? = some (.inl (.int, 6002, .inl (fun _ => 0))) := ab_other e1050 (by omega) c1024
  have c1056 : h1049[b+5]? = some (.inl (.int, 6002, .inl (fun _ => 0))) := ab_other e1050 (by omega) c1025
  have c1057 : h1049[b+6]? = some (.inl (.boolean, 6002, .inl (fun _ => 0))) := ab_other e1050 (by omega) c1026
  have c1058 : h1049[b+7]? = some (.inl (.int, 6002, .inl (fun _ => 0))) := ab_other e1050 (by omega) c1027
  have c1059 : h1049[b+8]? = some (.inl (.int, 56, .inl (fun _ => 0))) := ab_other e1050 (by omega) c1028
  have c1060 : h1049[b+9]? = some (.inl (.int, 56, .inl (fun _ => 0))) := ab_other e1050 (by omega) c1029
  have c1061 : h1049[b+10]? = some (.inl (.int, 56, .inl (fun _ => 0))) := ab_other e1050 (by omega) c1030
  have c1062 : h1049[b+11]? = some (.inl (.int, 16, .inl (fun _ => 0))) := ab_other e1050 (by omega) c1031
  have c1063 : h1049[b+12]? = some (.inl (.int, 17, .inl (fun _ => 0))) := ab_other e1050 (by omega) c1032
  have c1064 : h1049[b+13]? = some (.inl (.int, 48, .inl (fun _ => 0))) := ab_other e1050 (by omega) c1033
  have c1065 : h1049[b+14]? = some (.inl (.int, 48, .inl (fun _ => 0))) := ab_other e1050 (by omega) c1034
  have c1066 : h1049[b+15]? = some (.inl (.int, 8, .inl (fun _ => 0))) := ab_other e1050 (by omega) c1035
  have c1067 : h1049[b+16]? = some (.inl (.int, 8, .inl (fun _ => 0))) := ab_other e1050 (by omega) c1036
  have c1068 : h1049[b+17]? = some (.inl (.int, 32, .inl (fun _ => 0))) := ab_other e1050 (by omega) c1037
  have c1069 : h1049[b+18]? = some (.inl (.int, 32, .inl (fun _ => 0))) := ab_other e1050 (by omega) c1038
  have c1070 : h1049[b+19]? = some (.inl (.int, 16, .inl (fun _ => 0))) := ab_other e1050 (by omega) c1039
  have c1071 : h1049[b+20]? = some (.inl (.int, 768, .inl (fun _ => 0))) := ab_other e1050 (by omega) c1040
  have c1072 : h1049[b+21]? = some (.inl (.int, 16, .inl (fun _ => 0))) := ab_other e1050 (by omega) c1041
  have c1073 : h1049[b+22]? = some (.inl (.int, 16, .inl (fun _ => 0))) := ab_other e1050 (by omega) c1042
  have c1074 : h1049[b+23]? = some (.inl (.int, 16, .inl (fun _ => 0))) := ab_other e1050 (by omega) c1043
  have c1075 : h1049[b+24]? = some (.inl (.int, 16, .inl (fun _ => 0))) := ab_other e1050 (by omega) c1044
  have c1076 : h1049[b+25]? = some (.inl (.int, 16, .inl (fun _ => 0))) := ab_other e1050 (by omega) c1045
  have c1077 : h1049[b+26]? = some (.inl (.int, 16, .inl (fun _ => 0))) := ab_other e1050 (by omega) c1046
  have c1078 : h1049[b+27]? = some (.inl (.int, 16, .inl (fun _ => 0))) := ab_other e1050 (by omega) c1019
  have l1079 : h1049.length = b + 28 := by rw [e1050]; exact List.length_set.trans l1048
  have fr1080 : ab_fr (in_up b) h h1049 := ab_fr_set fr1047 e1050 (by first | (show _ ∧ _; omega) | (show _ ∨ _; omega) | (show _ = _; omega) | (show _ ≤ _; omega))
  clear c1020 c1021 c1022 c1023 c1024 c1025 c1026 c1027 c1028 c1029 c1030 c1031 c1032 c1033 c1034 c1035 c1036 c1037 c1038 c1039 c1040 c1041 c1042 c1043 c1044 c1045 c1046 c1019 l1048 fr1047 e1050
  try clear h1015
  refine ab_aload_n d_MText_init_228 rfl rfl rfl ?_
  refine ab_bipush (v := 12) d_MText_init_229 (by decide) ?_
  refine ab_newaL (N := 12) l1079 d_MText_init_231 rfl (k1 143 rfl rfl) tI (Or.inl rfl) (by decide) (by decide) (by decide) (by decide) (by decide) (fun h1081 e1082 e1083 e1084 => ?_)
  have c1085 : h1081[b + 28]? = some (.inl (.int, 12, .inl (fun _ => 0))) := e1083
  have c1086 : h1081[b]? = some (.inr (14, [.ref (b + 1), .int 0, .int 0, .ref (b + 2), .ref (b + 3), .ref (b + 4), .ref (b + 5), .ref (b + 6), .ref (b + 7), .int 0, .int 0, .int 0, .int 0, .ref (b + 8), .ref (b + 9), .ref (b + 10), .int 0, .ref (b + 11), .ref (b + 12), .ref (b + 13), .ref (b + 14), .int 0, .ref (b + 15), .ref (b + 16), .ref (b + 17), .ref (b + 18), .int 0, .ref (b + 19), .ref (b + 20), .int 0, .ref (b + 21), .ref (b + 22), .ref (b + 23), .ref (b + 24), .ref (b + 25), .ref (b + 26), .ref (b + 27), .int 0, .null, .null, .null, .int 0, .int 0])) := (e1084 _ (by omega)).trans c1051
  have c1087 : h1081[b+1]? = some (.inl (.byte, 6000, .inl (fun _ => 0))) := (e1084 _ (by omega)).trans c1052
  have c1088 : h1081[b+2]? = some (.inl (.int, 6002, .inl (fun _ => 0))) := (e1084 _ (by omega)).trans c1053
  have c1089 : h1081[b+3]? = some (.inl (.int, 6002, .inl (fun _ => 0))) := (e1084 _ (by omega)).trans c1054
  have c1090 : h1081[b+4]? = some (.inl (.int, 6002, .inl (fun _ => 0))) := (e1084 _ (by omega)).trans c1055
  have c1091 : h1081[b+5]? = some (.inl (.int, 6002, .inl (fun _ => 0))) := (e1084 _ (by omega)).trans c1056
  have c1092 : h1081[b+6]? = some (.inl (.boolean, 6002, .inl (fun _ => 0))) := (e1084 _ (by omega)).trans c1057
  have c1093 : h1081[b+7]? = some (.inl (.int, 6002, .inl (fun _ => 0))) := (e1084 _ (by omega)).trans c1058
  have c1094 : h1081[b+8]? = some (.inl (.int, 56, .inl (fun _ => 0))) := (e1084 _ (by omega)).trans c1059
  have c1095 : h1081[b+9]? = some (.inl (.int, 56, .inl (fun _ => 0))) := (e1084 _ (by omega)).trans c1060
  have c1096 : h1081[b+10]? = some (.inl (.int, 56, .inl (fun _ => 0))) := (e1084 _ (by omega)).trans c1061
  have c1097 : h1081[b+11]? = some (.inl (.int, 16, .inl (fun _ => 0))) := (e1084 _ (by omega)).trans c1062
  have c1098 : h1081[b+12]? = some (.inl (.int, 17, .inl (fun _ => 0))) := (e1084 _ (by omega)).trans c1063
  have c1099 : h1081[b+13]? = some (.inl (.int, 48, .inl (fun _ => 0))) := (e1084 _ (by omega)).trans c1064
  have c1100 : h1081[b+14]? = some (.inl (.int, 48, .inl (fun _ => 0))) := (e1084 _ (by omega)).trans c1065
  have c1101 : h1081[b+15]? = some (.inl (.int, 8, .inl (fun _ => 0))) := (e1084 _ (by omega)).trans c1066
  have c1102 : h1081[b+16]? = some (.inl (.int, 8, .inl (fun _ => 0))) := (e1084 _ (by omega)).trans c1067
  have c1103 : h1081[b+17]? = some (.inl (.int, 32, .inl (fun _ => 0))) := (e1084 _ (by omega)).trans c1068
  have c1104 : h1081[b+18]? = some (.inl (.int, 32, .inl (fun _ => 0))) := (e1084 _ (by omega)).trans c1069
  have c1105 : h1081[b+19]? = some (.inl (.int, 16, .inl (fun _ => 0))) := (e1084 _ (by omega)).trans c1070
  have c1106 : h1081[b+20]? = some (.inl (.int, 768, .inl (fun _ => 0))) := (e1084 _ (by omega)).trans c1071
  have c1107 : h1081[b+21]? = some (.inl (.int, 16, .inl (fun _ => 0))) := (e1084 _ (by omega)).trans c1072
  have c1108 : h1081[b+22]? = some (.inl (.int, 16, .inl (fun _ => 0))) := (e1084 _ (by omega)).trans c1073
  have c1109 : h1081[b+23]? = some (.inl (.int, 16, .inl (fun _ => 0))) := (e1084 _ (by omega)).trans c1074
  have c1110 : h1081[b+24]? = some (.inl (.int, 16, .inl (fun _ => 0))) := (e1084 _ (by omega)).trans c1075
  have c1111 : h1081[b+25]? = some (.inl (.int, 16, .inl (fun _ => 0))) := (e1084 _ (by omega)).trans c1076
  have c1112 : h1081[b+26]? = some (.inl (.int, 16, .inl (fun _ => 0))) := (e1084 _ (by omega)).trans c1077
  have c1113 : h1081[b+27]? = some (.inl (.int, 16, .inl (fun _ => 0))) := (e1084 _ (by omega)).trans c1078
  have fr1114 : ab_fr (in_up b) h h1081 := ab_fr_new fr1080 e1084 e1082 l1079
  have l1115 : h1081.length = b + 29 := e1082
  clear c1051 c1052 c1053 c1054 c1055 c1056 c1057 c1058 c1059 c1060 c1061 c1062 c1063 c1064 c1065 c1066 c1067 c1068 c1069 c1070 c1071 c1072 c1073 c1074 c1075 c1076 c1077 c1078 e1082 e1083 e1084 l1079 fr1080
  try clear h1049
  refine ab_putF (f := 38) d_MText_init_233 c1086 rfl (by decide) (k8 225 rfl rfl) rfl rfl rfl rfl (fun _ => rfl) (fun _ => rfl) (Nat.le_of_ble_eq_true rfl) ?_
  show ab_V _ _ _ _ _ _ _ 236 [some (.ref b)] [] (h1081.set b (.inr (14, [.ref (b + 1), .int 0, .int 0, .ref (b + 2), .ref (b + 3), .ref (b + 4), .ref (b + 5), .ref (b + 6), .ref (b + 7), .int 0, .int 0, .int 0, .int 0, .ref (b + 8), .ref (b + 9), .ref (b + 10), .int 0, .ref (b + 11), .ref (b + 12), .ref (b + 13), .ref (b + 14), .int 0, .ref (b + 15), .ref (b + 16), .ref (b + 17), .ref (b + 18), .int 0, .ref (b + 19), .ref (b + 20), .int 0, .ref (b + 21), .ref (b + 22), .ref (b + 23), .ref (b + 24), .ref (b + 25), .ref (b + 26), .ref (b + 27), .int 0, .ref (b + 28), .null, .null, .int 0, .int 0])))
  refine ab_gen (fun h1116 e1117 => ?_)
  have c1118 : h1116[b]? = some (.inr (14, [.ref (b + 1), .int 0, .int 0, .ref (b + 2), .ref (b + 3), .ref (b + 4), .ref (b + 5), .ref (b + 6), .ref (b + 7), .int 0, .int 0, .int 0, .int 0, .ref (b + 8), .ref (b + 9), .ref (b + 10), .int 0, .ref (b + 11), .ref (b + 12), .ref (b + 13), .ref (b + 14), .int 0, .ref (b + 15), .ref (b + 16), .ref (b + 17), .ref (b + 18), .int 0, .ref (b + 19), .ref (b + 20), .int 0, .ref (b + 21), .ref (b + 22), .ref (b + 23), .ref (b + 24), .ref (b + 25), .ref (b + 26), .ref (b + 27), .int 0, .ref (b + 28), .null, .null, .int 0, .int 0])) := ab_self e1117 c1086
  have c1119 : h1116[b+1]? = some (.inl (.byte, 6000, .inl (fun _ => 0))) := ab_other e1117 (by omega) c1087
  have c1120 : h1116[b+2]? = some (.inl (.int, 6002, .inl (fun _ => 0))) := ab_other e1117 (by omega) c1088
  have c1121 : h1116[b+3]? = some (.inl (.int, 6002, .inl (fun _ => 0))) := ab_other e1117 (by omega) c1089
  have c1122 : h1116[b+4]? = some (.inl (.int, 6002, .inl (fun _ => 0))) := ab_other e1117 (by omega) c1090
  have c1123 : h1116[b+5]? = some (.inl (.int, 6002, .inl (fun _ => 0))) := ab_other e1117 (by omega) c1091
  have c1124 : h1116[b+6]? = some (.inl (.boolean, 6002, .inl (fun _ => 0))) := ab_other e1117 (by omega) c1092
  have c1125 : h1116[b+7]? = some (.inl (.int, 6002, .inl (fun _ => 0))) := ab_other e1117 (by omega) c1093
  have c1126 : h1116[b+8]? = some (.inl (.int, 56, .inl (fun _ => 0))) := ab_other e1117 (by omega) c1094
  have c1127 : h1116[b+9]? = some (.inl (.int, 56, .inl (fun _ => 0))) := ab_other e1117 (by omega) c1095
  have c1128 : h1116[b+10]? = some (.inl (.int, 56, .inl (fun _ => 0))) := ab_other e1117 (by omega) c1096
  have c1129 : h1116[b+11]? = some (.inl (.int, 16, .inl (fun _ => 0))) := ab_other e1117 (by omega) c1097
  have c1130 : h1116[b+12]? = some (.inl (.int, 17, .inl (fun _ => 0))) := ab_other e1117 (by omega) c1098
  have c1131 : h1116[b+13]? = some (.inl (.int, 48, .inl (fun _ => 0))) := ab_other e1117 (by omega) c1099
  have c1132 : h1116[b+14]? = some (.inl (.int, 48, .inl (fun _ => 0))) := ab_other e1117 (by omega) c1100
  have c1133 : h1116[b+15]? = some (.inl (.int, 8, .inl (fun _ => 0))) := ab_other e1117 (by omega) c1101
  have c1134 : h1116[b+16]? = some (.inl (.int, 8, .inl (fun _ => 0))) := ab_other e1117 (by omega) c1102
  have c1135 : h1116[b+17]? = some (.inl (.int, 32, .inl (fun _ => 0))) := ab_other e1117 (by omega) c1103
  have c1136 : h1116[b+18]? = some (.inl (.int, 32, .inl (fun _ => 0))) := ab_other e1117 (by omega) c1104
  have c1137 : h1116[b+19]? = some (.inl (.int, 16, .inl (fun _ => 0))) := ab_other e1117 (by omega) c1105
  have c1138 : h1116[b+20]? = some (.inl (.int, 768, .inl (fun _ => 0))) := ab_other e1117 (by omega) c1106
  have c1139 : h1116[b+21]? = some (.inl (.int, 16, .inl (fun _ => 0))) := ab_other e1117 (by omega) c1107
  have c1140 : h1116[b+22]? = some (.inl (.int, 16, .inl (fun _ => 0))) := ab_other e1117 (by omega) c1108
  have c1141 : h1116[b+23]? = some (.inl (.int, 16, .inl (fun _ => 0))) := ab_other e1117 (by omega) c1109
  have c1142 : h1116[b+24]? = some (.inl (.int, 16, .inl (fun _ => 0))) := ab_other e1117 (by omega) c1110
  have c1143 : h1116[b+25]? = some (.inl (.int, 16, .inl (fun _ => 0))) := ab_other e1117 (by omega) c1111
  have c1144 : h1116[b+26]? = some (.inl (.int, 16, .inl (fun _ => 0))) := ab_other e1117 (by omega) c1112
  have c1145 : h1116[b+27]? = some (.inl (.int, 16, .inl (fun _ => 0))) := ab_other e1117 (by omega) c1113
  have c1146 : h1116[b+28]? = some (.inl (.int, 12, .inl (fun _ => 0))) := ab_other e1117 (by omega) c1085
  have l1147 : h1116.length = b + 29 := by rw [e1117]; exact List.length_set.trans l1115
  have fr1148 : ab_fr (in_up b) h h1116 := ab_fr_set fr1114 e1117 (by first | (show _ ∧ _; omega) | (show _ ∨ _; omega) | (show _ = _; omega) | (show _ ≤ _; omega))
  clear c1086 c1087 c1088 c1089 c1090 c1091 c1092 c1093 c1094 c1095 c1096 c1097 c1098 c1099 c1100 c1101 c1102 c1103 c1104 c1105 c1106 c1107 c1108 c1109 c1110 c1111 c1112 c1113 c1085 l1115 fr1114 e1117
  try clear h1081
  refine ab_aload_n d_MText_init_236 rfl rfl rfl ?_
  refine ab_bipush (v := 12) d_MText_init_237 (by decide) ?_
  refine ab_newaL (N := 12) l1147 d_MText_init_239 rfl (k1 143 rfl rfl) tI (Or.inl rfl) (by decide) (by decide) (by decide) (by decide) (by decide) (fun h1149 e1150 e1151 e1152 => ?_)
  have c1153 : h1149[b + 29]? = some (.inl (.int, 12, .inl (fun _ => 0))) := e1151
  have c1154 : h1149[b]? = some (.inr (14, [.ref (b + 1), .int 0, .int 0, .ref (b + 2), .ref (b + 3), .ref (b + 4), .ref (b + 5), .ref (b + 6), .ref (b + 7), .int 0, .int 0, .int 0, .int 0, .ref (b + 8), .ref (b + 9), .ref (b + 10), .int 0, .ref (b + 11), .ref (b + 12), .ref (b + 13), .ref (b + 14), .int 0, .ref (b + 15), .ref (b + 16), .ref (b + 17), .ref (b + 18), .int 0, .ref (b + 19), .ref (b + 20), .int 0, .ref (b + 21), .ref (b + 22), .ref (b + 23), .ref (b + 24), .ref (b + 25), .ref (b + 26), .ref (b + 27), .int 0, .ref (b + 28), .null, .null, .int 0, .int 0])) := (e1152 _ (by omega)).trans c1118
  have c1155 : h1149[b+1]? = some (.inl (.byte, 6000, .inl (fun _ => 0))) := (e1152 _ (by omega)).trans c1119
  have c1156 : h1149[b+2]? = some (.inl (.int, 6002, .inl (fun _ => 0))) := (e1152 _ (by omega)).trans c1120
  have c1157 : h1149[b+3]? = some (.inl (.int, 6002, .inl (fun _ => 0))) := (e1152 _ (by omega)).trans c1121
  have c1158 : h1149[b+4]? = some (.inl (.int, 6002, .inl (fun _ => 0))) := (e1152 _ (by omega)).trans c1122
  have c1159 : h1149[b+5]? = some (.inl (.int, 6002, .inl (fun _ => 0))) := (e1152 _ (by omega)).trans c1123
  have c1160 : h1149[b+6]? = some (.inl (.boolean, 6002, .inl (fun _ => 0))) := (e1152 _ (by omega)).trans c1124
  have c1161 : h1149[b+7]? = some (.inl (.int, 6002, .inl (fun _ => 0))) := (e1152 _ (by omega)).trans c1125
  have c1162 : h1149[b+8]? = some (.inl (.int, 56, .inl (fun _ => 0))) := (e1152 _ (by omega)).trans c1126
  have c1163 : h1149[b+9]? = some (.inl (.int, 56, .inl (fun _ => 0))) := (e1152 _ (by omega)).trans c1127
  have c1164 : h1149[b+10]? = some (.inl (.int, 56, .inl (fun _ => 0))) := (e1152 _ (by omega)).trans c1128
  have c1165 : h1149[b+11]? = some (.inl (.int, 16, .inl (fun _ => 0))) := (e1152 _ (by omega)).trans c1129
  have c1166 : h1149[b+12]? = some (.inl (.int, 17, .inl (fun _ => 0))) := (e1152 _ (by omega)).trans c1130
  have c1167 : h1149[b+13]? = some (.inl (.int, 48, .inl (fun _ => 0))) := (e1152 _ (by omega)).trans c1131
  have c1168 : h1149[b+14]? = some (.inl (.int, 48, .inl (fun _ => 0))) := (e1152 _ (by omega)).trans c1132
  have c1169 : h1149[b+15]? = some (.inl (.int, 8, .inl (fun _ => 0))) := (e1152 _ (by omega)).trans c1133
  have c1170 : h1149[b+16]? = some (.inl (.int, 8, .inl (fun _ => 0))) := (e1152 _ (by omega)).trans c1134
  have c1171 : h1149[b+17]? = some (.inl (.int, 32, .inl (fun _ => 0))) := (e1152 _ (by omega)).trans c1135
  have c1172 : h1149[b+18]? = some (.inl (.int, 32, .inl (fun _ => 0))) := (e1152 _ (by omega)).trans c1136
  have c1173 : h1149[b+19]? = some (.inl (.int, 16, .inl (fun _ => 0))) := (e1152 _ (by omega)).trans c1137
  have c1174 : h1149[b+20]? = some (.inl (.int, 768, .inl (fun _ => 0))) := (e1152 _ (by omega)).trans c1138
  have c1175 : h1149[b+21]? = some (.inl (.int, 16, .inl (fun _ => 0))) := (e1152 _ (by omega)).trans c1139
  have c1176 : h1149[b+22]? = some (.inl (.int, 16, .inl (fun _ => 0))) := (e1152 _ (by omega)).trans c1140
  have c1177 : h1149[b+23]? = some (.inl (.int, 16, .inl (fun _ => 0))) := (e1152 _ (by omega)).trans c1141
  have c1178 : h1149[b+24]? = some (.inl (.int, 16, .inl (fun _ => 0))) := (e1152 _ (by omega)).trans c1142
  have c1179 : h1149[b+25]? = some (.inl (.int, 16, .inl (fun _ => 0))) := (e1152 _ (by omega)).trans c1143
  have c1180 : h1149[b+26]? = some (.inl (.int, 16, .inl (fun _ => 0))) := (e1152 _ (by omega)).trans c1144
  have c1181 : h1149[b+27]? = some (.inl (.int, 16, .inl (fun _ => 0))) := (e1152 _ (by omega)).trans c1145
  have c1182 : h1149[b+28]? = some (.inl (.int, 12, .inl (fun _ => 0))) := (e1152 _ (by omega)).trans c1146
  have fr1183 : ab_fr (in_up b) h h1149 := ab_fr_new fr1148 e1152 e1150 l1147
  have l1184 : h1149.length = b + 30 := e1150
  clear c1118 c1119 c1120 c1121 c1122 c1123 c1124 c1125 c1126 c1127 c1128 c1129 c1130 c1131 c1132 c1133 c1134 c1135 c1136 c1137 c1138 c1139 c1140 c1141 c1142 c1143 c1144 c1145 c1146 e1150 e1151 e1152 l1147 fr1148
  try clear h1116
  refine ab_putF (f := 39) d_MText_init_241 c1154 rfl (by decide) (k8 226 rfl rfl) rfl rfl rfl rfl (fun _ => rfl) (fun _ => rfl) (Nat.le_of_ble_eq_true rfl) ?_
  show ab_V _ _ _ _ _ _ _ 244 [some (.ref b)] [] (h1149.set b (.inr (14, [.ref (b + 1), .int 0, .int 0, .ref (b + 2), .ref (b + 3), .ref (b + 4), .ref (b + 5), .ref (b + 6), .ref (b + 7), .int 0, .int 0, .int 0, .int 0, .ref (b + 8), .ref (b + 9), .ref (b + 10), .int 0, .ref (b + 11), .ref (b + 12), .ref (b + 13), .ref (b + 14), .int 0, .ref (b + 15), .ref (b + 16), .ref (b + 17), .ref (b + 18), .int 0, .ref (b + 19), .ref (b + 20), .int 0, .ref (b + 21), .ref (b + 22), .ref (b + 23), .ref (b + 24), .ref (b + 25), .ref (b + 26), .ref (b + 27), .int 0, .ref (b + 28), .ref (b + 29), .null, .int 0, .int 0])))
  refine ab_gen (fun h1185 e1186 => ?_)
  have c1187 : h1185[b]? = some (.inr (14, [.ref (b + 1), .int 0, .int 0, .ref (b + 2), .ref (b + 3), .ref (b + 4), .ref (b + 5), .ref (b + 6), .ref (b + 7), .int 0, .int 0, .int 0, .int 0, .ref (b + 8), .ref (b + 9), .ref (b + 10), .int 0, .ref (b + 11), .ref (b + 12), .ref (b + 13), .ref (b + 14), .int 0, .ref (b + 15), .ref (b + 16), .ref (b + 17), .ref (b + 18), .int 0, .ref (b + 19), .ref (b + 20), .int 0, .ref (b + 21), .ref (b + 22), .ref (b + 23), .ref (b + 24), .ref (b + 25), .ref (b + 26), .ref (b + 27), .int 0, .ref (b + 28), .ref (b + 29), .null, .int 0, .int 0])) := ab_self e1186 c1154
  have c1188 : h1185[b+1]? = some (.inl (.byte, 6000, .inl (fun _ => 0))) := ab_other e1186 (by omega) c1155
  have c1189 : h1185[b+2]? = some (.inl (.int, 6002, .inl (fun _ => 0))) := ab_other e1186 (by omega) c1156
  have c1190 : h1185[b+3]? = some (.inl (.int, 6002, .inl (fun _ => 0))) := ab_other e1186 (by omega) c1157
  have c1191 : h1185[b+4]? = some (.inl (.int, 6002, .inl (fun _ => 0))) := ab_other e1186 (by omega) c1158
  have c1192 : h1185[b+5]? = some (.inl (.int, 6002, .inl (fun _ => 0))) := ab_other e1186 (by omega) c1159
  have c1193 : h1185[b+6]? = some (.inl (.boolean, 6002, .inl (fun _ => 0))) := ab_other e1186 (by omega) c1160
  have c1194 : h1185[b+7]? = some (.inl (.int, 6002, .inl (fun _ => 0))) := ab_other e1186 (by omega) c1161
  have c1195 : h1185[b+8]? = some (.inl (.int, 56, .inl (fun _ => 0))) := ab_other e1186 (by omega) c1162
  have c1196 : h1185[b+9]? = some (.inl (.int, 56, .inl (fun _ => 0))) := ab_other e1186 (by omega) c1163
  have c1197 : h1185[b+10]? = some (.inl (.int, 56, .inl (fun _ => 0))) := ab_other e1186 (by omega) c1164
  have c1198 : h1185[b+11]? = some (.inl (.int, 16, .inl (fun _ => 0))) := ab_other e1186 (by omega) c1165
  have c1199 : h1185[b+12]? = some (.inl (.int, 17, .inl (fun _ => 0))) := ab_other e1186 (by omega) c1166
  have c1200 : h1185[b+13]? = some (.inl (.int, 48, .inl (fun _ => 0))) := ab_other e1186 (by omega) c1167
  have c1201 : h1185[b+14]? = some (.inl (.int, 48, .inl (fun _ => 0))) := ab_other e1186 (by omega) c1168
  have c1202 : h1185[b+15]? = some (.inl (.int, 8, .inl (fun _ => 0))) := ab_other e1186 (by omega) c1169
  have c1203 : h1185[b+16]? = some (.inl (.int, 8, .inl (fun _ => 0))) := ab_other e1186 (by omega) c1170
  have c1204 : h1185[b+17]? = some (.inl (.int, 32, .inl (fun _ => 0))) := ab_other e1186 (by omega) c1171
  have c1205 : h1185[b+18]? = some (.inl (.int, 32, .inl (fun _ => 0))) := ab_other e1186 (by omega) c1172
  have c1206 : h1185[b+19]? = some (.inl (.int, 16, .inl (fun _ => 0))) := ab_other e1186 (by omega) c1173
  have c1207 : h1185[b+20]? = some (.inl (.int, 768, .inl (fun _ => 0))) := ab_other e1186 (by omega) c1174
  have c1208 : h1185[b+21]? = some (.inl (.int, 16, .inl (fun _ => 0))) := ab_other e1186 (by omega) c1175
  have c1209 : h1185[b+22]? = some (.inl (.int, 16, .inl (fun _ => 0))) := ab_other e1186 (by omega) c1176
  have c1210 : h1185[b+23]? = some (.inl (.int, 16, .inl (fun _ => 0))) := ab_other e1186 (by omega) c1177
  have c1211 : h1185[b+24]? = some (.inl (.int, 16, .inl (fun _ => 0))) := ab_other e1186 (by omega) c1178
  have c1212 : h1185[b+25]? = some (.inl (.int, 16, .inl (fun _ => 0))) := ab_other e1186 (by omega) c1179
  have c1213 : h1185[b+26]? = some (.inl (.int, 16, .inl (fun _ => 0))) := ab_other e1186 (by omega) c1180
  have c1214 : h1185[b+27]? = some (.inl (.int, 16, .inl (fun _ => 0))) := ab_other e1186 (by omega) c1181
  have c1215 : h1185[b+28]? = some (.inl (.int, 12, .inl (fun _ => 0))) := ab_other e1186 (by omega) c1182
  have c1216 : h1185[b+29]? = some (.inl (.int, 12, .inl (fun _ => 0))) := ab_other e1186 (by omega) c1153
  have l1217 : h1185.length = b + 30 := by rw [e1186]; exact List.length_set.trans l1184
  have fr1218 : ab_fr (in_up b) h h1185 := ab_fr_set fr1183 e1186 (by first | (show _ ∧ _; omega) | (show _ ∨ _; omega) | (show _ = _; omega) | (show _ ≤ _; omega))
  clear c1154 c1155 c1156 c1157 c1158 c1159 c1160 c1161 c1162 c1163 c1164 c1165 c1166 c1167 c1168 c1169 c1170 c1171 c1172 c1173 c1174 c1175 c1176 c1177 c1178 c1179 c1180 c1181 c1182 c1153 l1184 fr1183 e1186
  try clear h1149
  refine ab_aload_n d_MText_init_244 rfl rfl rfl ?_
  refine ab_bipush (v := 12) d_MText_init_245 (by decide) ?_
  refine ab_newaL (N := 12) l1217 d_MText_init_247 rfl (k1 144 rfl rfl) tZ (Or.inr (Or.inr (Or.inl rfl))) (by decide) (by decide) (by decide) (by decide) (by decide) (fun h1219 e1220 e1221 e1222 => ?_)
  have c1223 : h1219[b + 30]? = some (.inl (.boolean, 12, .inl (fun _ => 0))) := e1221
  have c1224 : h1219[b]? = some (.inr (14, [.ref (b + 1), .int 0, .int 0, .ref (b + 2), .ref (b + 3), .ref (b + 4), .ref (b + 5), .ref (b + 6), .ref (b + 7), .int 0, .int 0, .int 0, .int 0, .ref (b + 8), .ref (b + 9), .ref (b + 10), .int 0, .ref (b + 11), .ref (b + 12), .ref (b + 13), .ref (b + 14), .int 0, .ref (b + 15), .ref (b + 16), .ref (b + 17), .ref (b + 18), .int 0, .ref (b + 19), .ref (b + 20), .int 0, .ref (b + 21), .ref (b + 22), .ref (b + 23), .ref (b + 24), .ref (b + 25), .ref (b + 26), .ref (b + 27), .int 0, .ref (b + 28), .ref (b + 29), .null, .int 0, .int 0])) := (e1222 _ (by omega)).trans c1187
  have c1225 : h1219[b+1]? = some (.inl (.byte, 6000, .inl (fun _ => 0))) := (e1222 _ (by omega)).trans c1188
  have c1226 : h1219[b+2]? = some (.inl (.int, 6002, .inl (fun _ => 0))) := (e1222 _ (by omega)).trans c1189
  have c1227 : h1219[b+3]? = some (.inl (.int, 6002, .inl (fun _ => 0))) := (e1222 _ (by omega)).trans c1190
  have c1228 : h1219[b+4]? = some (.inl (.int, 6002, .inl (fun _ => 0))) := (e1222 _ (by omega)).trans c1191
  have c1229 : h1219[b+5]? = some (.inl (.int, 6002, .inl (fun _ => 0))) := (e1222 _ (by omega)).trans c1192
  have c1230 : h1219[b+6]? = some (.inl (.boolean, 6002, .inl (fun _ => 0))) := (e1222 _ (by omega)).trans c1193
  have c1231 : h1219[b+7]? = some (.inl (.int, 6002, .inl (fun _ => 0))) := (e1222 _ (by omega)).trans c1194
  have c1232 : h1219[b+8]? = some (.inl (.int, 56, .inl (fun _ => 0))) := (e1222 _ (by omega)).trans c1195
  have c1233 : h1219[b+9]? = some (.inl (.int, 56, .inl (fun _ => 0))) := (e1222 _ (by omega)).trans c1196
  have c1234 : h1219[b+10]? = some (.inl (.int, 56, .inl (fun _ => 0))) := (e1222 _ (by omega)).trans c1197
  have c1235 : h1219[b+11]? = some (.inl (.int, 16, .inl (fun _ => 0))) := (e1222 _ (by omega)).trans c1198
  have c1236 : h1219[b+12]? = some (.inl (.int, 17, .inl (fun _ => 0))) := (e1222 _ (by omega)).trans c1199
  have c1237 : h1219[b+13]? = some (.inl (.int, 48, .inl (fun _ => 0))) := (e1222 _ (by omega)).trans c1200
  have c1238 : h1219[b+14]? = some (.inl (.int, 48, .inl (fun _ => 0))) := (e1222 _ (by omega)).trans c1201
  have c1239 : h1219[b+15]? = some (.inl (.int, 8, .inl (fun _ => 0))) := (e1222 _ (by omega)).trans c1202
  have c1240 : h1219[b+16]? = some (.inl (.int, 8, .inl (fun _ => 0))) := (e1222 _ (by omega)).trans c1203
  have c1241 : h1219[b+17]? = some (.inl (.int, 32, .inl (fun _ => 0))) := (e1222 _ (by omega)).trans c1204
  have c1242 : h1219[b+18]? = some (.inl (.int, 32, .inl (fun _ => 0))) := (e1222 _ (by omega)).trans c1205
  have c1243 : h1219[b+19]? = some (.inl (.int, 16, .inl (fun _ => 0))) := (e1222 _ (by omega)).trans c1206
  have c1244 : h1219[b+20]? = some (.inl (.int, 768, .inl (fun _ => 0))) := (e1222 _ (by omega)).trans c1207
  have c1245 : h1219[b+21]? = some (.inl (.int, 16, .inl (fun _ => 0))) := (e1222 _ (by omega)).trans c1208
  have c1246 : h1219[b+22]? = some (.inl (.int, 16, .inl (fun _ => 0))) := (e1222 _ (by omega)).trans c1209
  have c1247 : h1219[b+23]? = some (.inl (.int, 16, .inl (fun _ => 0))) := (e1222 _ (by omega)).trans c1210
  have c1248 : h1219[b+24]? = some (.inl (.int, 16, .inl (fun _ => 0))) := (e1222 _ (by omega)).trans c1211
  have c1249 : h1219[b+25]? = some (.inl (.int, 16, .inl (fun _ => 0))) := (e1222 _ (by omega)).trans c1212
  have c1250 : h1219[b+26]? = some (.inl (.int, 16, .inl (fun _ => 0))) := (e1222 _ (by omega)).trans c1213
  have c1251 : h1219[b+27]? = some (.inl (.int, 16, .inl (fun _ => 0))) := (e1222 _ (by omega)).trans c1214
  have c1252 : h1219[b+28]? = some (.inl (.int, 12, .inl (fun _ => 0))) := (e1222 _ (by omega)).trans c1215
  have c1253 : h1219[b+29]? = some (.inl (.int, 12, .inl (fun _ => 0))) := (e1222 _ (by omega)).trans c1216
  have fr1254 : ab_fr (in_up b) h h1219 := ab_fr_new fr1218 e1222 e1220 l1217
  have l1255 : h1219.length = b + 31 := e1220
  clear c1187 c1188 c1189 c1190 c1191 c1192 c1193 c1194 c1195 c1196 c1197 c1198 c1199 c1200 c1201 c1202 c1203 c1204 c1205 c1206 c1207 c1208 c1209 c1210 c1211 c1212 c1213 c1214 c1215 c1216 e1220 e1221 e1222 l1217 fr1218
  try clear h1185
  refine ab_putF (f := 40) d_MText_init_249 c1224 rfl (by decide) (k8 227 rfl rfl) rfl rfl rfl rfl (fun _ => rfl) (fun _ => rfl) (Nat.le_of_ble_eq_true rfl) ?_
  show ab_V _ _ _ _ _ _ _ 252 [some (.ref b)] [] (h1219.set b (.inr (14, [.ref (b + 1), .int 0, .int 0, .ref (b + 2), .ref (b + 3), .ref (b + 4), .ref (b + 5), .ref (b + 6), .ref (b + 7), .int 0, .int 0, .int 0, .int 0, .ref (b + 8), .ref (b + 9), .ref (b + 10), .int 0, .ref (b + 11), .ref (b + 12), .ref (b + 13), .ref (b + 14), .int 0, .ref (b + 15), .ref (b + 16), .ref (b + 17), .ref (b + 18), .int 0, .ref (b + 19), .ref (b + 20), .int 0, .ref (b + 21), .ref (b + 22), .ref (b + 23), .ref (b + 24), .ref (b + 25), .ref (b + 26), .ref (b + 27), .int 0, .ref (b + 28), .ref (b + 29), .ref (b + 30), .int 0, .int 0])))
  refine ab_gen (fun h1256 e1257 => ?_)
  have c1258 : h1256[b]? = some (.inr (14, [.ref (b + 1), .int 0, .int 0, .ref (b + 2), .ref (b + 3), .ref (b + 4), .ref (b + 5), .ref (b + 6), .ref (b + 7), .int 0, .int 0, .int 0, .int 0, .ref (b + 8), .ref (b + 9), .ref (b + 10), .int 0, .ref (b + 11), .ref (b + 12), .ref (b + 13), .ref (b + 14), .int 0, .ref (b + 15), .ref (b + 16), .ref (b + 17), .ref (b + 18), .int 0, .ref (b + 19), .ref (b + 20), .int 0, .ref (b + 21), .ref (b + 22), .ref (b + 23), .ref (b + 24), .ref (b + 25), .ref (b + 26), .ref (b + 27), .int 0, .ref (b + 28), .ref (b + 29), .ref (b + 30), .int 0, .int 0])) := ab_self e1257 c1224
  have c1259 : h1256[b+1]? = some (.inl (.byte, 6000, .inl (fun _ => 0))) := ab_other e1257 (by omega) c1225
  have c1260 : h1256[b+2]? = some (.inl (.int, 6002, .inl (fun _ => 0))) := ab_other e1257 (by omega) c1226
  have c1261 : h1256[b+3]? = some (.inl (.int, 6002, .inl (fun _ => 0))) := ab_other e1257 (by omega) c1227
  have c1262 : h1256[b+4]? = some (.inl (.int, 6002, .inl (fun _ => 0))) := ab_other e1257 (by omega) c1228
  have c1263 : h1256[b+5]? = some (.inl (.int, 6002, .inl (fun _ => 0))) := ab_other e1257 (by omega) c1229
  have c1264 : h1256[b+6]? = some (.inl (.boolean, 6002, .inl (fun _ => 0))) := ab_other e1257 (by omega) c1230
  have c1265 : h1256[b+7]? = some (.inl (.int, 6002, .inl (fun _ => 0))) := ab_other e1257 (by omega) c1231
  have c1266 : h1256[b+8]? = some (.inl (.int, 56, .inl (fun _ => 0))) := ab_other e1257 (by omega) c1232
  have c1267 : h1256[b+9]? = some (.inl (.int, 56, .inl (fun _ => 0))) := ab_other e1257 (by omega) c1233
  have c1268 : h1256[b+10]? = some (.inl (.int, 56, .inl (fun _ => 0))) := ab_other e1257 (by omega) c1234
  have c1269 : h1256[b+11]? = some (.inl (.int, 16, .inl (fun _ => 0))) := ab_other e1257 (by omega) c1235
  have c1270 : h1256[b+12]? = some (.inl (.int, 17, .inl (fun _ => 0))) := ab_other e1257 (by omega) c1236
  have c1271 : h1256[b+13]? = some (.inl (.int, 48, .inl (fun _ => 0))) := ab_other e1257 (by omega) c1237
  have c1272 : h1256[b+14]? = some (.inl (.int, 48, .inl (fun _ => 0))) := ab_other e1257 (by omega) c1238
  have c1273 : h1256[b+15]? = some (.inl (.int, 8, .inl (fun _ => 0))) := ab_other e1257 (by omega) c1239
  have c1274 : h1256[b+16]? = some (.inl (.int, 8, .inl (fun _ => 0))) := ab_other e1257 (by omega) c1240
  have c1275 : h1256[b+17]? = some (.inl (.int, 32, .inl (fun _ => 0))) := ab_other e1257 (by omega) c1241
  have c1276 : h1256[b+18]? = some (.inl (.int, 32, .inl (fun _ => 0))) := ab_other e1257 (by omega) c1242
  have c1277 : h1256[b+19]? = some (.inl (.int, 16, .inl (fun _ => 0))) := ab_other e1257 (by omega) c1243
  have c1278 : h1256[b+20]? = some (.inl (.int, 768, .inl (fun _ => 0))) := ab_other e1257 (by omega) c1244
  have c1279 : h1256[b+21]? = some (.inl (.int, 16, .inl (fun _ => 0))) := ab_other e1257 (by omega) c1245
  have c1280 : h1256[b+22]? = some (.inl (.int, 16, .inl (fun _ => 0))) := ab_other e1257 (by omega) c1246
  have c1281 : h1256[b+23]? = some (.inl (.int, 16, .inl (fun _ => 0))) := ab_other e1257 (by omega) c1247
  have c1282 : h1256[b+24]? = some (.inl (.int, 16, .inl (fun _ => 0))) := ab_other e1257 (by omega) c1248
  have c1283 : h1256[b+25]? = some (.inl (.int, 16, .inl (fun _ => 0))) := ab_other e1257 (by omega) c1249
  have c1284 : h1256[b+26]? = some (.inl (.int, 16, .inl (fun _ => 0))) := ab_other e1257 (by omega) c1250
  have c1285 : h1256[b+27]? = some (.inl (.int, 16, .inl (fun _ => 0))) := ab_other e1257 (by omega) c1251
  have c1286 : h1256[b+28]? = some (.inl (.int, 12, .inl (fun _ => 0))) := ab_other e1257 (by omega) c1252
  have c1287 : h1256[b+29]? = some (.inl (.int, 12, .inl (fun _ => 0))) := ab_other e1257 (by omega) c1253
  have c1288 : h1256[b+30]? = some (.inl (.boolean, 12, .inl (fun _ => 0))) := ab_other e1257 (by omega) c1223
  have l1289 : h1256.length = b + 31 := by rw [e1257]; exact List.length_set.trans l1255
  have fr1290 : ab_fr (in_up b) h h1256 := ab_fr_set fr1254 e1257 (by first | (show _ ∧ _; omega) | (show _ ∨ _; omega) | (show _ = _; omega) | (show _ ≤ _; omega))
  clear c1224 c1225 c1226 c1227 c1228 c1229 c1230 c1231 c1232 c1233 c1234 c1235 c1236 c1237 c1238 c1239 c1240 c1241 c1242 c1243 c1244 c1245 c1246 c1247 c1248 c1249 c1250 c1251 c1252 c1253 c1223 l1255 fr1254 e1257
  try clear h1219
  exact ab_vret d_MText_init_252 rfl (by decide) (by decide) (by exact ⟨rfl, ⟨c1258, c1259, c1260, c1261, c1262, c1263, c1264, c1265, c1266, c1267, c1268, c1269, c1270, c1271, c1272, c1273, c1274, c1275, c1276, c1277, c1278, c1279, c1280, c1281, c1282, c1283, c1284, c1285, c1286, c1287, c1288⟩, l1289, fr1290⟩)
set_option maxRecDepth 20000 in
set_option maxHeartbeats 2000000 in
theorem c_MRunner_init {h : List ab_E}  {b : Nat}   (ho : h[b]? = some (.inr (15, [.null, .null, .null, .null, .int 0, .int 0, .int 0, .int 0, .int 0, .int 0, .int 0, .int 0, .int 0, .null, .null, .null]))) (hlen : h.length = b + 1)  : ab_M y_MRunner_init { frames := 1, cells := 4, slots := 393284, locals := 20 } [.ref b] h (ab_A none (fun h1 => at_MRunner h1 b .null .null .null (fun _ => 0) (fun _ _ => 0) ∧ h1.length = b + 5 ∧ ab_fr (in_up b) h h1)) := by
  refine ab_of2 (lv := [some (.ref b)]) 0 rfl rfl (Nat.le_of_ble_eq_true rfl) ?_
  refine ab_aload_n d_MRunner_init_0 rfl rfl rfl ?_
  refine ab_objInit d_MRunner_init_1 (k9 181 rfl rfl) (k1 37 rfl rfl) (k1 38 rfl rfl) (by decide) (by decide) ?_
  refine ab_aload_n d_MRunner_init_4 rfl rfl rfl ?_
  refine ab_ldc d_MRunner_init_5 (k9 182 rfl rfl) ?_
  refine ab_newaL (N := 393216) hlen d_MRunner_init_7 rfl (k1 143 rfl rfl) tI (Or.inl rfl) (by decide) (by decide) (by decide) (by decide) (by decide) (fun h1 e2 e3 e4 => ?_)
  have c5 : h1[b + 1]? = some (.inl (.int, 393216, .inl (fun _ => 0))) := e3
  have c6 : h1[b]? = some (.inr (15, [.null, .null, .null, .null, .int 0, .int 0, .int 0, .int 0, .int 0, .int 0, .int 0, .int 0, .int 0, .null, .null, .null])) := (e4 _ (by omega)).trans ho
  have fr7 : ab_fr (in_up b) h h1 := ab_fr_new (ab_fr_rf _ _) e4 e2 hlen
  have l8 : h1.length = b + 2 := e2
  clear e2 e3 e4
  refine ab_putF (f := 3) d_MRunner_init_9 c6 rfl (by decide) (k9 186 rfl rfl) rfl rfl rfl rfl (fun _ => rfl) (fun _ => rfl) (Nat.le_of_ble_eq_true rfl) ?_
  show ab_V _ _ _ _ _ _ _ 12 [some (.ref b)] [] (h1.set b (.inr (15, [.null, .null, .null, .ref (b + 1), .int 0, .int 0, .int 0, .int 0, .int 0, .int 0, .int 0, .int 0, .int 0, .null, .null, .null])))
  refine ab_gen (fun h9 e10 => ?_)
  have c11 : h9[b]? = some (.inr (15, [.null, .null, .null, .ref (b + 1), .int 0, .int 0, .int 0, .int 0, .int 0, .int 0, .int 0, .int 0, .int 0, .null, .null, .null])) := ab_self e10 c6
  have c12 : h9[b+1]? = some (.inl (.int, 393216, .inl (fun _ => 0))) := ab_other e10 (by omega) c5
  have l13 : h9.length = b + 2 := by rw [e10]; exact List.length_set.trans l8
  have fr14 : ab_fr (in_up b) h h9 := ab_fr_set fr7 e10 (by first | (show _ ∧ _; omega) | (show _ ∨ _; omega) | (show _ = _; omega) | (show _ ≤ _; omega))
  clear c6 c5 l8 fr7 e10
  try clear h1
  refine ab_aload_n d_MRunner_init_12 rfl rfl rfl ?_
  refine ab_bipush (v := 48) d_MRunner_init_13 (by decide) ?_
  refine ab_newaL (N := 48) l13 d_MRunner_init_15 rfl (k1 143 rfl rfl) tI (Or.inl rfl) (by decide) (by decide) (by decide) (by decide) (by decide) (fun h15 e16 e17 e18 => ?_)
  have c19 : h15[b + 2]? = some (.inl (.int, 48, .inl (fun _ => 0))) := e17
  have c20 : h15[b]? = some (.inr (15, [.null, .null, .null, .ref (b + 1), .int 0, .int 0, .int 0, .int 0, .int 0, .int 0, .int 0, .int 0, .int 0, .null, .null, .null])) := (e18 _ (by omega)).trans c11
  have c21 : h15[b+1]? = some (.inl (.int, 393216, .inl (fun _ => 0))) := (e18 _ (by omega)).trans c12
  have fr22 : ab_fr (in_up b) h h15 := ab_fr_new fr14 e18 e16 l13
  have l23 : h15.length = b + 3 := e16
  clear c11 c12 e16 e17 e18 l13 fr14
  try clear h9
  refine ab_putF (f := 13) d_MRunner_init_17 c20 rfl (by decide) (k9 196 rfl rfl) rfl rfl rfl rfl (fun _ => rfl) (fun _ => rfl) (Nat.le_of_ble_eq_true rfl) ?_
  show ab_V _ _ _ _ _ _ _ 20 [some (.ref b)] [] (h15.set b (.inr (15, [.null, .null, .null, .ref (b + 1), .int 0, .int 0, .int 0, .int 0, .int 0, .int 0, .int 0, .int 0, .int 0, .ref (b + 2), .null, .null])))
  refine ab_gen (fun h24 e25 => ?_)
  have c26 : h24[b]? = some (.inr (15, [.null, .null, .null, .ref (b + 1), .int 0, .int 0, .int 0, .int 0, .int 0, .int 0, .int 0, .int 0, .int 0, .ref (b + 2), .null, .null])) := ab_self e25 c20
  have c27 : h24[b+1]? = some (.inl (.int, 393216, .inl (fun _ => 0))) := ab_other e25 (by omega) c21
  have c28 : h24[b+2]? = some (.inl (.int, 48, .inl (fun _ => 0))) := ab_other e25 (by omega) c19
  have l29 : h24.length = b + 3 := by rw [e25]; exact List.length_set.trans l23
  have fr30 : ab_fr (in_up b) h h24 := ab_fr_set fr22 e25 (by first | (show _ ∧ _; omega) | (show _ ∨ _; omega) | (show _ = _; omega) | (show _ ≤ _; omega))
  clear c20 c21 c19 l23 fr22 e25
  try clear h15
  refine ab_aload_n d_MRunner_init_20 rfl rfl rfl ?_
  refine ab_bipush (v := 12) d_MRunner_init_21 (by decide) ?_
  refine ab_newaL (N := 12) l29 d_MRunner_init_23 rfl (k1 143 rfl rfl) tI (Or.inl rfl) (by decide) (by decide) (by decide) (by decide) (by decide) (fun h31 e32 e33 e34 => ?_)
  have c35 : h31[b + 3]? = some (.inl (.int, 12, .inl (fun _ => 0))) := e33
  have c36 : h31[b]? = some (.inr (15, [.null, .null, .null, .ref (b + 1), .int 0, .int 0, .int 0, .int 0, .int 0, .int 0, .int 0, .int 0, .int 0, .ref (b + 2), .null, .null])) := (e34 _ (by omega)).trans c26
  have c37 : h31[b+1]? = some (.inl (.int, 393216, .inl (fun _ => 0))) := (e34 _ (by omega)).trans c27
  have c38 : h31[b+2]? = some (.inl (.int, 48, .inl (fun _ => 0))) := (e34 _ (by omega)).trans c28
  have fr39 : ab_fr (in_up b) h h31 := ab_fr_new fr30 e34 e32 l29
  have l40 : h31.length = b + 4 := e32
  clear c26 c27 c28 e32 e33 e34 l29 fr30
  try clear h24
  refine ab_putF (f := 14) d_MRunner_init_25 c36 rfl (by decide) (k9 197 rfl rfl) rfl rfl rfl rfl (fun _ => rfl) (fun _ => rfl) (Nat.le_of_ble_eq_true rfl) ?_
  show ab_V _ _ _ _ _ _ _ 28 [some (.ref b)] [] (h31.set b (.inr (15, [.null, .null, .null, .ref (b + 1), .int 0, .int 0, .int 0, .int 0, .int 0, .int 0, .int 0, .int 0, .int 0, .ref (b + 2), .ref (b + 3), .null])))
  refine ab_gen (fun h41 e42 => ?_)
  have c43 : h41[b]? = some (.inr (15, [.null, .null, .null, .ref (b + 1), .int 0, .int 0, .int 0, .int 0, .int 0, .int 0, .int 0, .int 0, .int 0, .ref (b + 2), .ref (b + 3), .null])) := ab_self e42 c36
  have c44 : h41[b+1]? = some (.inl (.int, 393216, .inl (fun _ => 0))) := ab_other e42 (by omega) c37
  have c45 : h41[b+2]? = some (.inl (.int, 48, .inl (fun _ => 0))) := ab_other e42 (by omega) c38
  have c46 : h41[b+3]? = some (.inl (.int, 12, .inl (fun _ => 0))) := ab_other e42 (by omega) c35
  have l47 : h41.length = b + 4 := by rw [e42]; exact List.length_set.trans l40
  have fr48 : ab_fr (in_up b) h h41 := ab_fr_set fr39 e42 (by first | (show _ ∧ _; omega) | (show _ ∨ _; omega) | (show _ = _; omega) | (show _ ≤ _; omega))
  clear c36 c37 c38 c35 l40 fr39 e42
  try clear h31
  refine ab_aload_n d_MRunner_init_28 rfl rfl rfl ?_
  refine ab_bipush (v := 8) d_MRunner_init_29 (by decide) ?_
  refine ab_newaL (N := 8) l47 d_MRunner_init_31 rfl (k1 143 rfl rfl) tI (Or.inl rfl) (by decide) (by decide) (by decide) (by decide) (by decide) (fun h49 e50 e51 e52 => ?_)
  have c53 : h49[b + 4]? = some (.inl (.int, 8, .inl (fun _ => 0))) := e51
  have c54 : h49[b]? = some (.inr (15, [.null, .null, .null, .ref (b + 1), .int 0, .int 0, .int 0, .int 0, .int 0, .int 0, .int 0, .int 0, .int 0, .ref (b + 2), .ref (b + 3), .null])) := (e52 _ (by omega)).trans c43
  have c55 : h49[b+1]? = some (.inl (.int, 393216, .inl (fun _ => 0))) := (e52 _ (by omega)).trans c44
  have c56 : h49[b+2]? = some (.inl (.int, 48, .inl (fun _ => 0))) := (e52 _ (by omega)).trans c45
  have c57 : h49[b+3]? = some (.inl (.int, 12, .inl (fun _ => 0))) := (e52 _ (by omega)).trans c46
  have fr58 : ab_fr (in_up b) h h49 := ab_fr_new fr48 e52 e50 l47
  have l59 : h49.length = b + 5 := e50
  clear c43 c44 c45 c46 e50 e51 e52 l47 fr48
  try clear h41
  refine ab_putF (f := 15) d_MRunner_init_33 c54 rfl (by decide) (k9 198 rfl rfl) rfl rfl rfl rfl (fun _ => rfl) (fun _ => rfl) (Nat.le_of_ble_eq_true rfl) ?_
  show ab_V _ _ _ _ _ _ _ 36 [some (.ref b)] [] (h49.set b (.inr (15, [.null, .null, .null, .ref (b + 1), .int 0, .int 0, .int 0, .int 0, .int 0, .int 0, .int 0, .int 0, .int 0, .ref (b + 2), .ref (b + 3), .ref (b + 4)])))
  refine ab_gen (fun h60 e61 => ?_)
  have c62 : h60[b]? = some (.inr (15, [.null, .null, .null, .ref (b + 1), .int 0, .int 0, .int 0, .int 0, .int 0, .int 0, .int 0, .int 0, .int 0, .ref (b + 2), .ref (b + 3), .ref (b + 4)])) := ab_self e61 c54
  have c63 : h60[b+1]? = some (.inl (.int, 393216, .inl (fun _ => 0))) := ab_other e61 (by omega) c55
  have c64 : h60[b+2]? = some (.inl (.int, 48, .inl (fun _ => 0))) := ab_other e61 (by omega) c56
  have c65 : h60[b+3]? = some (.inl (.int, 12, .inl (fun _ => 0))) := ab_other e61 (by omega) c57
  have c66 : h60[b+4]? = some (.inl (.int, 8, .inl (fun _ => 0))) := ab_other e61 (by omega) c53
  have l67 : h60.length = b + 5 := by rw [e61]; exact List.length_set.trans l59
  have fr68 : ab_fr (in_up b) h h60 := ab_fr_set fr58 e61 (by first | (show _ ∧ _; omega) | (show _ ∨ _; omega) | (show _ = _; omega) | (show _ ≤ _; omega))
  clear c54 c55 c56 c57 c53 l59 fr58 e61
  try clear h49
  exact ab_vret d_MRunner_init_36 rfl (by decide) (by decide) (by exact ⟨rfl, ⟨c62, c63, c64, c65, c66⟩, l67, fr68⟩)
def sp_mbegin   : Nat → Nat → (Nat → Int32) → (Nat → Nat → Int32) → (Nat → Int32) × (Nat → Nat → Int32)
  | 0, _, s, a => (s, a)
  | n + 1, i, s, a => sp_mbegin   n (i + 1) s (upa (upa (upa a 4 (upd (a 4) ((nI i)).toNatClampNeg 0)) 5 (upd (a 5) ((nI i)).toNatClampNeg (vp_nar .boolean 0))) 6 (upd (a 6) ((nI i)).toNatClampNeg 0))
termination_by n => n
theorem sp_mbegin_0   (i : Nat) (s : (Nat → Int32)) (a : (Nat → Nat → Int32)) : sp_mbegin   0 i s a = (s, a) := by rw [sp_mbegin]
set_option maxRecDepth 20000 in
set_option maxHeartbeats 2000000 in
theorem l_mbegin {Po : Outcome → List ab_E → Prop} {mc ms cells slots : Nat} {R : Room}  {w : Nat}      : ∀ (n i : Nat) (s : Nat → Int32) (a : Nat → Nat → Int32)  (h : List ab_E), i + n = 256 → at_MWorld h w s a → (∀ h1, at_MWorld h1 w (sp_mbegin   n i s a).1 (sp_mbegin   n i s a).2 → ab_fr (in_MWorld w) h h1 → h1.length = h.length → ab_V y_MWorld_begin R Po mc ms cells slots 71 [some (.ref w), some (.int (nI 256))] [] h1) →
    ab_V y_MWorld_begin R Po mc ms cells slots 37 [some (.ref w), some (.int (nI i))] [] h := by
  intro n
  induction n with
  | zero =>
    intro i s a h hi hw hk
    have hw0 := hw; obtain ⟨go, g4, g5, g6, g7, g9, g10, g11, g12, g17⟩ := hw
    have hl0 : h.length = h.length := rfl
    refine ab_iload_n d_MWorld_begin_37 rfl rfl ?_
    refine ab_sipush (v := 256) d_MWorld_begin_38 (by decide) ?_
    refine ab_icmp_ge (tgt := 71) d_MWorld_begin_41 (by decide) (fun q1 => ?_) (fun q1 => ?_)
    · have hiN : i = 256 := (by omega)
      subst hiN
      rw [sp_mbegin_0] at hk
      exact hk h hw0 (ab_fr_rf _ _) rfl
    · exact absurd (nI_le (a := 256) (b := i) (by omega) (by omega)) q1
  | succ n ih =>
    intro i s a h hi hw hk
    have hw0 := hw; obtain ⟨go, g4, g5, g6, g7, g9, g10, g11, g12, g17⟩ := hw
    have hl0 : h.length = h.length := rfl
    refine ab_iload_n d_MWorld_begin_37 rfl rfl ?_
    refine ab_sipush (v := 256) d_MWorld_begin_38 (by decide) ?_
    refine ab_icmp_ge (tgt := 71) d_MWorld_begin_41 (by decide) (fun q1 => ?_) (fun q1 => ?_)
    · exact absurd ((nI_leI (a := 256) (b := i) (by omega) (by omega)).mp q1) (by omega)
    · refine ab_aload_n d_MWorld_begin_44 rfl rfl rfl ?_
      refine ab_get (f := 4) d_MWorld_begin_45 go rfl (by decide) (k9 98 rfl rfl) rfl ?_
      refine ab_iload_n d_MWorld_begin_48 rfl rfl ?_
      refine ab_iconst (v := 0) d_MWorld_begin_49 (by decide) ?_
      refine ab_iast d_MWorld_begin_50 tI g4 (vp_in_nI (by omega) (by decide)) ?_
      refine ab_gen (fun h2 e3 => ?_)
      have c4 : h2[w]? = some (.inr (13, [.int (s 0), .int (s 1), .int (s 2), .int (s 3), .ref (w + 1), .ref (w + 2), .ref (w + 3), .ref (w + 4), .int (s 8), .ref (w + 5), .ref (w + 6), .ref (w + 7), .ref (w + 8), .int (s 13), .int (s 14), .int (s 15), .int (s 16), .ref (w + 9)])) := ab_other e3 (by omega) go
      have c5 : h2[w+1]? = some (.inl (.int, 256, .inl (upd (a 4) ((nI i)).toNatClampNeg 0))) := ab_self e3 g4
      have c6 : h2[w+2]? = some (.inl (.boolean, 256, .inl (a 5))) := ab_other e3 (by omega) g5
      have c7 : h2[w+3]? = some (.inl (.int, 256, .inl (a 6))) := ab_other e3 (by omega) g6
      have c8 : h2[w+4]? = some (.inl (.int, 12288, .inl (a 7))) := ab_other e3 (by omega) g7
      have c9 : h2[w+5]? = some (.inl (.int, 256, .inl (a 9))) := ab_other e3 (by omega) g9
      have c10 : h2[w+6]? = some (.inl (.int, 256, .inl (a 10))) := ab_other e3 (by omega) g10
      have c11 : h2[w+7]? = some (.inl (.int, 256, .inl (a 11))) := ab_other e3 (by omega) g11
      have c12 : h2[w+8]? = some (.inl (.int, 1024, .inl (a 12))) := ab_other e3 (by omega) g12
      have c13 : h2[w+9]? = some (.inl (.int, 32, .inl (a 17))) := ab_other e3 (by omega) g17
      have l14 : h2.length = h.length := by rw [e3]; exact List.length_set.trans hl0
      have fr15 : ab_fr (in_MWorld w) h h2 := ab_fr_set (ab_fr_rf _ _) e3 (by first | (show _ ∧ _; omega) | (show _ ∨ _; omega) | (show _ = _; omega) | (show _ ≤ _; omega) | (simp only [in_MWorld] <;> omega))
      clear e3
      refine ab_aload_n d_MWorld_begin_51 rfl rfl rfl ?_
      refine ab_get (f := 5) d_MWorld_begin_52 c4 rfl (by decide) (k9 100 rfl rfl) rfl ?_
      refine ab_iload_n d_MWorld_begin_55 rfl rfl ?_
      refine ab_iconst (v := 0) d_MWorld_begin_56 (by decide) ?_
      refine ab_zast d_MWorld_begin_57 tZ c6 (vp_in_nI (by omega) (by decide)) ?_
      refine ab_gen (fun h16 e17 => ?_)
      have c18 : h16[w]? = some (.inr (13, [.int (s 0), .int (s 1), .int (s 2), .int (s 3), .ref (w + 1), .ref (w + 2), .ref (w + 3), .ref (w + 4), .int (s 8), .ref (w + 5), .ref (w + 6), .ref (w + 7), .ref (w + 8), .int (s 13), .int (s 14), .int (s 15), .int (s 16), .ref (w + 9)])) := ab_other e17 (by omega) c4
      have c19 : h16[w+1]? = some (.inl (.int, 256, .inl (upd (a 4) ((nI i)).toNatClampNeg 0))) := ab_other e17 (by omega) c5
      have c20 : h16[w+2]? = some (.inl (.boolean, 256, .inl (upd (a 5) ((nI i)).toNatClampNeg (vp_nar .boolean 0)))) := ab_self e17 c6
      have c21 : h16[w+3]? = some (.inl (.int, 256, .inl (a 6))) := ab_other e17 (by omega) c7
      have c22 : h16[w+4]? = some (.inl (.int, 12288, .inl (a 7))) := ab_other e17 (by omega) c8
      have c23 : h16[w+5]? = some (.inl (.int, 256, .inl (a 9))) := ab_other e17 (by omega) c9
      have c24 : h16[w+6]? = some (.inl (.int, 256, .inl (a 10))) := ab_other e17 (by omega) c10
      have c25 : h16[w+7]? = some (.inl (.int, 256, .inl (a 11))) := ab_other e17 (by omega) c11
      have c26 : h16[w+8]? = some (.inl (.int, 1024, .inl (a 12))) := ab_other e17 (by omega) c12
      have c27 : h16[w+9]? = some (.inl (.int, 32, .inl (a 17))) := ab_other e17 (by omega) c13
      have l28 : h16.length = h.length := by rw [e17]; exact List.length_set.trans l14
      have fr29 : ab_fr (in_MWorld w) h h16 := ab_fr_set fr15 e17 (by first | (show _ ∧ _; omega) | (show _ ∨ _; omega) | (show _ = _; omega) | (show _ ≤ _; omega) | (simp only [in_MWorld] <;> omega))
      clear c4 c5 c6 c7 c8 c9 c10 c11 c12 c13 l14 fr15 e17
      try clear h2
      refine ab_aload_n d_MWorld_begin_58 rfl rfl rfl ?_
      refine ab_get (f := 6) d_MWorld_begin_59 c18 rfl (by decide) (k9 104 rfl rfl) rfl ?_
      refine ab_iload_n d_MWorld_begin_62 rfl rfl ?_
      refine ab_iconst (v := 0) d_MWorld_begin_63 (by decide) ?_
      refine ab_iast d_MWorld_begin_64 tI c21 (vp_in_nI (by omega) (by decide)) ?_
      refine ab_gen (fun h30 e31 => ?_)
      have c32 : h30[w]? = some (.inr (13, [.int (s 0), .int (s 1), .int (s 2), .int (s 3), .ref (w + 1), .ref (w + 2), .ref (w + 3), .ref (w + 4), .int (s 8), .ref (w + 5), .ref (w + 6), .ref (w + 7), .ref (w + 8), .int (s 13), .int (s 14), .int (s 15), .int (s 16), .ref (w + 9)])) := ab_other e31 (by omega) c18
      have c33 : h30[w+1]? = some (.inl (.int, 256, .inl (upd (a 4) ((nI i)).toNatClampNeg 0))) := ab_other e31 (by omega) c19
      have c34 : h30[w+2]? = some (.inl (.boolean, 256, .inl (upd (a 5) ((nI i)).toNatClampNeg (vp_nar .boolean 0)))) := ab_other e31 (by omega) c20
      have c35 : h30[w+3]? = some (.inl (.int, 256, .inl (upd (a 6) ((nI i)).toNatClampNeg 0))) := ab_self e31 c21
      have c36 : h30[w+4]? = some (.inl (.int, 12288, .inl (a 7))) := ab_other e31 (by omega) c22
      have c37 : h30[w+5]? = some (.inl (.int, 256, .inl (a 9))) := ab_other e31 (by omega) c23
      have c38 : h30[w+6]? = some (.inl (.int, 256, .inl (a 10))) := ab_other e31 (by omega) c24
      have c39 : h30[w+7]? = some (.inl (.int, 256, .inl (a 11))) := ab_other e31 (by omega) c25
      have c40 : h30[w+8]? = some (.inl (.int, 1024, .inl (a 12))) := ab_other e31 (by omega) c26
      have c41 : h30[w+9]? = some (.inl (.int, 32, .inl (a 17))) := ab_other e31 (by omega) c27
      have l42 : h30.length = h.length := by rw [e31]; exact List.length_set.trans l28
      have fr43 : ab_fr (in_MWorld w) h h30 := ab_fr_set fr29 e31 (by first | (show _ ∧ _; omega) | (show _ ∨ _; omega) | (show _ = _; omega) | (show _ ≤ _; omega) | (simp only [in_MWorld] <;> omega))
      clear c18 c19 c20 c21 c22 c23 c24 c25 c26 c27 l28 fr29 e31
      try clear h16
      obtain ⟨x44, ex44⟩ : ∃ q : Int32, q = nI i + 1 := ⟨_, rfl⟩
      refine ab_iinc (v := x44) (lv' := [some (.ref w), some (.int x44)]) d_MWorld_begin_65 rfl (by rw [ex44]; rfl) (by decide) rfl ?_
      refine ab_goto (tgt := 37) d_MWorld_begin_68 (by decide) ?_
      subst ex44
      have heq : sp_mbegin   (n + 1) i s a = sp_mbegin   n (i + 1) s (upa (upa (upa a 4 (upd (a 4) ((nI i)).toNatClampNeg 0)) 5 (upd (a 5) ((nI i)).toNatClampNeg (vp_nar .boolean 0))) 6 (upd (a 6) ((nI i)).toNatClampNeg 0)) := by rw [sp_mbegin]; try rfl
      rw [heq] at hk
      rw [nI_1]
      exact ih (i + 1) s (upa (upa (upa a 4 (upd (a 4) ((nI i)).toNatClampNeg 0)) 5 (upd (a 5) ((nI i)).toNatClampNeg (vp_nar .boolean 0))) 6 (upd (a 6) ((nI i)).toNatClampNeg 0)) h30 (by omega) ⟨c32, c33, c34, c35, c36, c37, c38, c39, c40, c41⟩ (fun h1 q0 qf ql => hk h1 q0 (ab_fr_tr fr43 qf) (ql.trans l42))
def sp_MWorld_begin (s : Nat → Int32) (a : Nat → Nat → Int32)  : (Nat → Int32) × (Nat → Nat → Int32) := (((sp_mbegin   256 0 (upd (upd (upd (upd (upd (upd (upd s 0 (0)) 1 (0)) 2 (0)) 3 (0)) 8 (0)) 13 ((-1))) 16 (0)) a).1), ((sp_mbegin   256 0 (upd (upd (upd (upd (upd (upd (upd s 0 (0)) 1 (0)) 2 (0)) 3 (0)) 8 (0)) 13 ((-1))) 16 (0)) a).2))
set_option maxRecDepth 20000 in
set_option maxHeartbeats 2000000 in
theorem c_MWorld_begin {h : List ab_E} {w : Nat} {s : Nat → Int32} {a : Nat → Nat → Int32}  (hw : at_MWorld h w s a)  : ab_M y_MWorld_begin { frames := 0, cells := 0, slots := 0, locals := 0 } [.ref w] h (ab_A none (fun h1 => at_MWorld h1 w (sp_MWorld_begin s a ).1 (sp_MWorld_begin s a ).2 ∧ ab_fr (in_MWorld w) h h1)) := by
  have hw0 := hw; obtain ⟨go, g4, g5, g6, g7, g9, g10, g11, g12, g17⟩ := hw
  refine ab_of2 (lv := [some (.ref w), none]) 1 rfl rfl (Nat.le_of_ble_eq_true rfl) ?_
  refine ab_aload_n d_MWorld_begin_0 rfl rfl rfl ?_
  refine ab_iconst (v := 0) d_MWorld_begin_1 (by decide) ?_
  refine ab_put (f := 0) d_MWorld_begin_2 go rfl (by decide) (k9 87 rfl rfl) rfl rfl (fun _ => rfl) (fun _ => rfl) (Nat.le_of_ble_eq_true rfl) ?_
  show ab_V _ _ _ _ _ _ _ 5 [some (.ref w), none] [] (h.set w (.inr (13, [.int 0, .int (s 1), .int (s 2), .int (s 3), .ref (w + 1), .ref (w + 2), .ref (w + 3), .ref (w + 4), .int (s 8), .ref (w + 5), .ref (w + 6), .ref (w + 7), .ref (w + 8), .int (s 13), .int (s 14), .int (s 15), .int (s 16), .ref (w + 9)])))
  refine ab_gen (fun h1 e2 => ?_)
  have c3 : h1[w]? = some (.inr (13, [.int 0, .int (s 1), .int (s 2), .int (s 3), .ref (w + 1), .ref (w + 2), .ref (w + 3), .ref (w + 4), .int (s 8), .ref (w + 5), .ref (w + 6), .ref (w + 7), .ref (w + 8), .int (s 13), .int (s 14), .int (s 15), .int (s 16), .ref (w + 9)])) := ab_self e2 go
  have c4 : h1[w+1]? = some (.inl (.int, 256, .inl (a 4))) := ab_other e2 (by omega) g4
  have c5 : h1[w+2]? = some (.inl (.boolean, 256, .inl (a 5))) := ab_other e2 (by omega) g5
  have c6 : h1[w+3]? = some (.inl (.int, 256, .inl (a 6))) := ab_other e2 (by omega) g6
  have c7 : h1[w+4]? = some (.inl (.int, 12288, .inl (a 7))) := ab_other e2 (by omega) g7
  have c8 : h1[w+5]? = some (.inl (.int, 256, .inl (a 9))) := ab_other e2 (by omega) g9
  have c9 : h1[w+6]? = some (.inl (.int, 256, .inl (a 10))) := ab_other e2 (by omega) g10
  have c10 : h1[w+7]? = some (.inl (.int, 256, .inl (a 11))) := ab_other e2 (by omega) g11
  have c11 : h1[w+8]? = some (.inl (.int, 1024, .inl (a 12))) := ab_other e2 (by omega) g12
  have c12 : h1[w+9]? = some (.inl (.int, 32, .inl (a 17))) := ab_other e2 (by omega) g17
  have fr13 : ab_fr (in_MWorld w) h h1 := ab_fr_set (ab_fr_rf _ _) e2 (by first | (show _ ∧ _; omega) | (show _ ∨ _; omega) | (show _ = _; omega) | (show _ ≤ _; omega))
  clear e2
  refine ab_aload_n d_MWorld_begin_5 rfl rfl rfl ?_
  refine ab_iconst (v := 0) d_MWorld_begin_6 (by decide) ?_
  refine ab_put (f := 1) d_MWorld_begin_7 c3 rfl (by decide) (k9 90 rfl rfl) rfl rfl (fun _ => rfl) (fun _ => rfl) (Nat.le_of_ble_eq_true rfl) ?_
  show ab_V _ _ _ _ _ _ _ 10 [some (.ref w), none] [] (h1.set w (.inr (13, [.int 0, .int 0, .int (s 2), .int (s 3), .ref (w + 1), .ref (w + 2), .ref (w + 3), .ref (w + 4), .int (s 8), .ref (w + 5), .ref (w + 6), .ref (w + 7), .ref (w + 8), .int (s 13), .int (s 14), .int (s 15), .int (s 16), .ref (w + 9)])))
  refine ab_gen (fun h14 e15 => ?_)
  have c16 : h14[w]? = some (.inr (13, [.int 0, .int 0, .int (s 2), .int (s 3), .ref (w + 1), .ref (w + 2), .ref (w + 3), .ref (w + 4), .int (s 8), .ref (w + 5), .ref (w + 6), .ref (w + 7), .ref (w + 8), .int (s 13), .int (s 14), .int (s 15), .int (s 16), .ref (w + 9)])) := ab_self e15 c3
  have c17 : h14[w+1]? = some (.inl (.int, 256, .inl (a 4))) := ab_other e15 (by omega) c4
  have c18 : h14[w+2]? = some (.inl (.boolean, 256, .inl (a 5))) := ab_other e15 (by omega) c5
  have c19 : h14[w+3]? = some (.inl (.int, 256, .inl (a 6))) := ab_other e15 (by omega) c6
  have c20 : h14[w+4]? = some (.inl (.int, 12288, .inl (a 7))) := ab_other e15 (by omega) c7
  have c21 : h14[w+5]? = some (.inl (.int, 256, .inl (a 9))) := ab_other e15 (by omega) c8
  have c22 : h14[w+6]? = some (.inl (.int, 256, .inl (a 10))) := ab_other e15 (by omega) c9
  have c23 : h14[w+7]? = some (.inl (.int, 256, .inl (a 11))) := ab_other e15 (by omega) c10
  have c24 : h14[w+8]? = some (.inl (.int, 1024, .inl (a 12))) := ab_other e15 (by omega) c11
  have c25 : h14[w+9]? = some (.inl (.int, 32, .inl (a 17))) := ab_other e15 (by omega) c12
  have fr26 : ab_fr (in_MWorld w) h h14 := ab_fr_set fr13 e15 (by first | (show _ ∧ _; omega) | (show _ ∨ _; omega) | (show _ = _; omega) | (show _ ≤ _; omega))
  clear c3 c4 c5 c6 c7 c8 c9 c10 c11 c12 fr13 e15
  try clear h1
  refine ab_aload_n d_MWorld_begin_10 rfl rfl rfl ?_
  refine ab_iconst (v := 0) d_MWorld_begin_11 (by decide) ?_
  refine ab_put (f := 2) d_MWorld_begin_12 c16 rfl (by decide) (k9 93 rfl rfl) rfl rfl (fun _ => rfl) (fun _ => rfl) (Nat.le_of_ble_eq_true rfl) ?_
  show ab_V _ _ _ _ _ _ _ 15 [some (.ref w), none] [] (h14.set w (.inr (13, [.int 0, .int 0, .int 0, .int (s 3), .ref (w + 1), .ref (w + 2), .ref (w + 3), .ref (w + 4), .int (s 8), .ref (w + 5), .ref (w + 6), .ref (w + 7), .ref (w + 8), .int (s 13), .int (s 14), .int (s 15), .int (s 16), .ref (w + 9)])))
  refine ab_gen (fun h27 e28 => ?_)
  have c29 : h27[w]? = some (.inr (13, [.int 0, .int 0, .int 0, .int (s 3), .ref (w + 1), .ref (w + 2), .ref (w + 3), .ref (w + 4), .int (s 8), .ref (w + 5), .ref (w + 6), .ref (w + 7), .ref (w + 8), .int (s 13), .int (s 14), .int (s 15), .int (s 16), .ref (w + 9)])) := ab_self e28 c16
  have c30 : h27[w+1]? = some (.inl (.int, 256, .inl (a 4))) := ab_other e28 (by omega) c17
  have c31 : h27[w+2]? = some (.inl (.boolean, 256, .inl (a 5))) := ab_other e28 (by omega) c18
  have c32 : h27[w+3]? = some (.inl (.int, 256, .inl (a 6))) := ab_other e28 (by omega) c19
  have c33 : h27[w+4]? = some (.inl (.int, 12288, .inl (a 7))) := ab_other e28 (by omega) c20
  have c34 : h27[w+5]? = some (.inl (.int, 256, .inl (a 9))) := ab_other e28 (by omega) c21
  have c35 : h27[w+6]? = some (.inl (.int, 256, .inl (a 10))) := ab_other e28 (by omega) c22
  have c36 : h27[w+7]? = some (.inl (.int, 256, .inl (a 11))) := ab_other e28 (by omega) c23
  have c37 : h27[w+8]? = some (.inl (.int, 1024, .inl (a 12))) := ab_other e28 (by omega) c24
  have c38 : h27[w+9]? = some (.inl (.int, 32, .inl (a 17))) := ab_other e28 (by omega) c25
  have fr39 : ab_fr (in_MWorld w) h h27 := ab_fr_set fr26 e28 (by first | (show _ ∧ _; omega) | (show _ ∨ _; omega) | (show _ = _; omega) | (show _ ≤ _; omega))
  clear c16 c17 c18 c19 c20 c21 c22 c23 c24 c25 fr26 e28
  try clear h14
  refine ab_aload_n d_MWorld_begin_15 rfl rfl rfl ?_
  refine ab_iconst (v := 0) d_MWorld_begin_16 (by decide) ?_
  refine ab_put (f := 3) d_MWorld_begin_17 c29 rfl (by decide) (k9 95 rfl rfl) rfl rfl (fun _ => rfl) (fun _ => rfl) (Nat.le_of_ble_eq_true rfl) ?_
  show ab_V _ _ _ _ _ _ _ 20 [some (.ref w), none] [] (h27.set w (.inr (13, [.int 0, .int 0, .int 0, .int 0, .ref (w + 1), .ref (w + 2), .ref (w + 3), .ref (w + 4), .int (s 8), .ref (w + 5), .ref (w + 6), .ref (w + 7), .ref (w + 8), .int (s 13), .int (s 14), .int (s 15), .int (s 16), .ref (w + 9)])))
  refine ab_gen (fun h40 e41 => ?_)
  have c42 : h40[w]? = some (.inr (13, [.int 0, .int 0, .int 0, .int 0, .ref (w + 1), .ref (w + 2), .ref (w + 3), .ref (w + 4), .int (s 8), .ref (w + 5), .ref (w + 6), .ref (w + 7), .ref (w + 8), .int (s 13), .int (s 14), .int (s 15), .int (s 16), .ref (w + 9)])) := ab_self e41 c29
  have c43 : h40[w+1]? = some (.inl (.int, 256, .inl (a 4))) := ab_other e41 (by omega) c30
  have c44 : h40[w+2]? = some (.inl (.boolean, 256, .inl (a 5))) := ab_other e41 (by omega) c31
  have c45 : h40[w+3]? = some (.inl (.int, 256, .inl (a 6))) := ab_other e41 (by omega) c32
  have c46 : h40[w+4]? = some (.inl (.int, 12288, .inl (a 7))) := ab_other e41 (by omega) c33
  have c47 : h40[w+5]? = some (.inl (.int, 256, .inl (a 9))) := ab_other e41 (by omega) c34
  have c48 : h40[w+6]? = some (.inl (.int, 256, .inl (a 10))) := ab_other e41 (by omega) c35
  have c49 : h40[w+7]? = some (.inl (.int, 256, .inl (a 11))) := ab_other e41 (by omega) c36
  have c50 : h40[w+8]? = some (.inl (.int, 1024, .inl (a 12))) := ab_other e41 (by omega) c37
  have c51 : h40[w+9]? = some (.inl (.int, 32, .inl (a 17))) := ab_other e41 (by omega) c38
  have fr52 : ab_fr (in_MWorld w) h h40 := ab_fr_set fr39 e41 (by first | (show _ ∧ _; omega) | (show _ ∨ _; omega) | (show _ = _; omega) | (show _ ≤ _; omega))
  clear c29 c30 c31 c32 c33 c34 c35 c36 c37 c38 fr39 e41
  try clear h27
  refine ab_aload_n d_MWorld_begin_20 rfl rfl rfl ?_
  refine ab_iconst (v := 0) d_MWorld_begin_21 (by decide) ?_
  refine ab_put (f := 8) d_MWorld_begin_22 c42 rfl (by decide) (k9 111 rfl rfl) rfl rfl (fun _ => rfl) (fun _ => rfl) (Nat.le_of_ble_eq_true rfl) ?_
  show ab_V _ _ _ _ _ _ _ 25 [some (.ref w), none] [] (h40.set w (.inr (13, [.int 0, .int 0, .int 0, .int 0, .ref (w + 1), .ref (w + 2), .ref (w + 3), .ref (w + 4), .int 0, .ref (w + 5), .ref (w + 6), .ref (w + 7), .ref (w + 8), .int (s 13), .int (s 14), .int (s 15), .int (s 16), .ref (w + 9)])))
  refine ab_gen (fun h53 e54 => ?_)
  have c55 : h53[w]? = some (.inr (13, [.int 0, .int 0, .int 0, .int 0, .ref (w + 1), .ref (w + 2), .ref (w + 3), .ref (w + 4), .int 0, .ref (w + 5), .ref (w + 6), .ref (w + 7), .ref (w + 8), .int (s 13), .int (s 14), .int (s 15), .int (s 16), .ref (w + 9)])) := ab_self e54 c42
  have c56 : h53[w+1]? = some (.inl (.int, 256, .inl (a 4))) := ab_other e54 (by omega) c43
  have c57 : h53[w+2]? = some (.inl (.boolean, 256, .inl (a 5))) := ab_other e54 (by omega) c44
  have c58 : h53[w+3]? = some (.inl (.int, 256, .inl (a 6))) := ab_other e54 (by omega) c45
  have c59 : h53[w+4]? = some (.inl (.int, 12288, .inl (a 7))) := ab_other e54 (by omega) c46
  have c60 : h53[w+5]? = some (.inl (.int, 256, .inl (a 9))) := ab_other e54 (by omega) c47
  have c61 : h53[w+6]? = some (.inl (.int, 256, .inl (a 10))) := ab_other e54 (by omega) c48
  have c62 : h53[w+7]? = some (.inl (.int, 256, .inl (a 11))) := ab_other e54 (by omega) c49
  have c63 : h53[w+8]? = some (.inl (.int, 1024, .inl (a 12))) := ab_other e54 (by omega) c50
  have c64 : h53[w+9]? = some (.inl (.int, 32, .inl (a 17))) := ab_other e54 (by omega) c51
  have fr65 : ab_fr (in_MWorld w) h h53 := ab_fr_set fr52 e54 (by first | (show _ ∧ _; omega) | (show _ ∨ _; omega) | (show _ = _; omega) | (show _ ≤ _; omega))
  clear c42 c43 c44 c45 c46 c47 c48 c49 c50 c51 fr52 e54
  try clear h40
  refine ab_aload_n d_MWorld_begin_25 rfl rfl rfl ?_
  refine ab_iconst (v := (-1)) d_MWorld_begin_26 (by decide) ?_
  refine ab_put (f := 13) d_MWorld_begin_27 c55 rfl (by decide) (k9 126 rfl rfl) rfl rfl (fun _ => rfl) (fun _ => rfl) (Nat.le_of_ble_eq_true rfl) ?_
  show ab_V _ _ _ _ _ _ _ 30 [some (.ref w), none] [] (h53.set w (.inr (13, [.int 0, .int 0, .int 0, .int 0, .ref (w + 1), .ref (w + 2), .ref (w + 3), .ref (w + 4), .int 0, .ref (w + 5), .ref (w + 6), .ref (w + 7), .ref (w + 8), .int (-1), .int (s 14), .int (s 15), .int (s 16), .ref (w + 9)])))
  refine ab_gen (fun h66 e67 => ?_)
  have c68 : h66[w]? = some (.inr (13, [.int 0, .int 0, .int 0, .int 0, .ref (w + 1), .ref (w + 2), .ref (w + 3), .ref (w + 4), .int 0, .ref (w + 5), .ref (w + 6), .ref (w + 7), .ref (w + 8), .int (-1), .int (s 14), .int (s 15), .int (s 16), .ref (w + 9)])) := ab_self e67 c55
  have c69 : h66[w+1]? = some (.inl (.int, 256, .inl (a 4))) := ab_other e67 (by omega) c56
  have c70 : h66[w+2]? = some (.inl (.boolean, 256, .inl (a 5))) := ab_other e67 (by omega) c57
  have c71 : h66[w+3]? = some (.inl (.int, 256, .inl (a 6))) := ab_other e67 (by omega) c58
  have c72 : h66[w+4]? = some (.inl (.int, 12288, .inl (a 7))) := ab_other e67 (by omega) c59
  have c73 : h66[w+5]? = some (.inl (.int, 256, .inl (a 9))) := ab_other e67 (by omega) c60
  have c74 : h66[w+6]? = some (.inl (.int, 256, .inl (a 10))) := ab_other e67 (by omega) c61
  have c75 : h66[w+7]? = some (.inl (.int, 256, .inl (a 11))) := ab_other e67 (by omega) c62
  have c76 : h66[w+8]? = some (.inl (.int, 1024, .inl (a 12))) := ab_other e67 (by omega) c63
  have c77 : h66[w+9]? = some (.inl (.int, 32, .inl (a 17))) := ab_other e67 (by omega) c64
  have fr78 : ab_fr (in_MWorld w) h h66 := ab_fr_set fr65 e67 (by first | (show _ ∧ _; omega) | (show _ ∨ _; omega) | (show _ = _; omega) | (show _ ≤ _; omega))
  clear c55 c56 c57 c58 c59 c60 c61 c62 c63 c64 fr65 e67
  try clear h53
  refine ab_aload_n d_MWorld_begin_30 rfl rfl rfl ?_
  refine ab_iconst (v := 0) d_MWorld_begin_31 (by decide) ?_
  refine ab_put (f := 16) d_MWorld_begin_32 c68 rfl (by decide) (k9 133 rfl rfl) rfl rfl (fun _ => rfl) (fun _ => rfl) (Nat.le_of_ble_eq_true rfl) ?_
  show ab_V _ _ _ _ _ _ _ 35 [some (.ref w), none] [] (h66.set w (.inr (13, [.int 0, .int 0, .int 0, .int 0, .ref (w + 1), .ref (w + 2), .ref (w + 3), .ref (w + 4), .int 0, .ref (w + 5), .ref (w + 6), .ref (w + 7), .ref (w + 8), .int (-1), .int (s 14), .int (s 15), .int 0, .ref (w + 9)])))
  refine ab_gen (fun h79 e80 => ?_)
  have c81 : h79[w]? = some (.inr (13, [.int 0, .int 0, .int 0, .int 0, .ref (w + 1), .ref (w + 2), .ref (w + 3), .ref (w + 4), .int 0, .ref (w + 5), .ref (w + 6), .ref (w + 7), .ref (w + 8), .int (-1), .int (s 14), .int (s 15), .int 0, .ref (w + 9)])) := ab_self e80 c68
  have c82 : h79[w+1]? = some (.inl (.int, 256, .inl (a 4))) := ab_other e80 (by omega) c69
  have c83 : h79[w+2]? = some (.inl (.boolean, 256, .inl (a 5))) := ab_other e80 (by omega) c70
  have c84 : h79[w+3]? = some (.inl (.int, 256, .inl (a 6))) := ab_other e80 (by omega) c71
  have c85 : h79[w+4]? = some (.inl (.int, 12288, .inl (a 7))) := ab_other e80 (by omega) c72
  have c86 : h79[w+5]? = some (.inl (.int, 256, .inl (a 9))) := ab_other e80 (by omega) c73
  have c87 : h79[w+6]? = some (.inl (.int, 256, .inl (a 10))) := ab_other e80 (by omega) c74
  have c88 : h79[w+7]? = some (.inl (.int, 256, .inl (a 11))) := ab_other e80 (by omega) c75
  have c89 : h79[w+8]? = some (.inl (.int, 1024, .inl (a 12))) := ab_other e80 (by omega) c76
  have c90 : h79[w+9]? = some (.inl (.int, 32, .inl (a 17))) := ab_other e80 (by omega) c77
  have fr91 : ab_fr (in_MWorld w) h h79 := ab_fr_set fr78 e80 (by first | (show _ ∧ _; omega) | (show _ ∨ _; omega) | (show _ = _; omega) | (show _ ≤ _; omega))
  clear c68 c69 c70 c71 c72 c73 c74 c75 c76 c77 fr78 e80
  try clear h66
  refine ab_iconst (v := 0) d_MWorld_begin_35 (by decide) ?_
  refine ab_istore_n (lv' := [some (.ref w), some (.int 0)]) d_MWorld_begin_36 rfl (by decide) rfl ?_
  refine l_mbegin 256 0 (upd (upd (upd (upd (upd (upd (upd s 0 (0)) 1 (0)) 2 (0)) 3 (0)) 8 (0)) 13 ((-1))) 16 (0)) a h79 (by omega) ⟨c81, c82, c83, c84, c85, c86, c87, c88, c89, c90⟩ (fun h95 kf92 f93 l94 => ?_)
  have fr96 : ab_fr (in_MWorld w) h h95 := ab_fr_tr fr91 f93
  clear c81 c82 c83 c84 c85 c86 c87 c88 c89 c90 f93 fr91
  try clear h79
  obtain ⟨s97, es97⟩ : ∃ z, z = (sp_mbegin   256 0 (upd (upd (upd (upd (upd (upd (upd s 0 (0)) 1 (0)) 2 (0)) 3 (0)) 8 (0)) 13 ((-1))) 16 (0)) a).1 := ⟨_, rfl⟩
  obtain ⟨a98, ea98⟩ : ∃ z, z = (sp_mbegin   256 0 (upd (upd (upd (upd (upd (upd (upd s 0 (0)) 1 (0)) 2 (0)) 3 (0)) 8 (0)) 13 ((-1))) 16 (0)) a).2 := ⟨_, rfl⟩
  rw [← es97, ← ea98] at kf92
  obtain ⟨g99o, g994, g995, g996, g997, g999, g9910, g9911, g9912, g9917⟩ := kf92
  exact ab_vret d_MWorld_begin_71 rfl (Nat.le_refl _) (Nat.le_refl _) (by have hsp : (sp_MWorld_begin s a ) = (s97, a98) := (by subst ea98; subst es97; unfold sp_MWorld_begin; try rfl); rw [hsp]; exact ⟨rfl, ⟨g99o, g994, g995, g996, g997, g999, g9910, g9911, g9912, g9917⟩, fr96⟩)
