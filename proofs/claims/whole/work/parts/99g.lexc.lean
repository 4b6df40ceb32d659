theorem go_inv {bf : Int32 → Int32} {T : Nat} : ∀ (n i c : Nat) (s : Nat → Int32) (a : Nat → Nat → Int32), s 1 = nI T → s 10 = nI c → c + n ≤ 6000 → (lx_go bf T n i s a).1 1 = nI T ∧ (∃ c', (lx_go bf T n i s a).1 10 = nI c' ∧ c' ≤ c + n) ∧ (∀ j, j ≠ 6 ∧ j ≠ 7 ∧ j ≠ 8 ∧ j ≠ 9 → (lx_go bf T n i s a).2.1 j = a j) := by
  intro n
  induction n with
  | zero => intro i c s a h1 h2 _; rw [lx_go]; exact ⟨h1, ⟨c, h2, Nat.le_refl _⟩, fun _ _ => rfl⟩
  | succ n ih =>
    intro i c s a h1 h2 h3
    rw [lx_go]
    by_cases q1 : T ≤ i
    · rw [if_pos q1]; exact ⟨h1, ⟨c, h2, by omega⟩, fun _ _ => rfl⟩
    · rw [if_neg q1]
      have e1 : sp_note_s s 1 = nI T := by rw [note_s1]; exact h1
      have e2 : sp_note_s s 10 = nI (c + 1) := note_s10 h2 (by omega)
      by_cases q2 : (lx_tok bf T i).2.1 = 1
      · rw [if_pos q2]; exact ⟨e1, ⟨c + 1, e2, by omega⟩, fun j hj => note_a hj⟩
      · rw [if_neg q2]
        obtain ⟨z1, ⟨c', z2, z3⟩, z4⟩ := ih (lx_bbn bf T (lx_tok bf T i).1) (c + 1) (sp_note_s s) (sp_note_a s a (lx_tok bf T i).2.1 (nI i) (lx_tok bf T i).2.2.1 (lx_tok bf T i).2.2.2) e1 e2 (by omega)
        exact ⟨z1, ⟨c', z2, by omega⟩, fun j hj => (z4 j hj).trans (note_a hj)⟩
def lx_s0 (s : Nat → Int32) : Nat → Int32 := upd (upd (upd s 10 0) 4 0) 5 0
def lx_all (bf : Int32 → Int32) (T : Nat) (s : Nat → Int32) (a : Nat → Nat → Int32) : (Nat → Int32) × (Nat → Nat → Int32) × Int32 := lx_go bf T T (lx_bbn bf T 0) (lx_s0 s) a
def lx_end (T : Nat) (g : (Nat → Int32) × (Nat → Nat → Int32) × Int32) : (Nat → Int32) × (Nat → Nat → Int32) := if g.2.2 = 0 then (g.1, g.2.1) else (sp_note_s g.1, sp_note_a g.1 g.2.1 0 (nI T) 0 0)
def lx_fin (g : (Nat → Int32) × (Nat → Nat → Int32)) : Nat → Int32 := upd (upd (upd g.1 11 0) 2 (g.2 6 (0 : Int32).toNatClampNeg)) 3 (g.2 7 (0 : Int32).toNatClampNeg)
theorem note_s_of {s : Nat → Int32} {j : Nat} (h : j ≠ 10) : sp_note_s s j = s j := by
  unfold sp_note_s
  split
  · exact if_neg h
  · rfl
set_option maxRecDepth 20000 in
set_option maxHeartbeats 2000000 in
theorem c_Lexer_begin {h : List ab_E} {b : Nat} {s : Nat → Int32} {a : Nat → Nat → Int32} {bf : Int32 → Int32} {T : Nat} (hl : at_Lexer h b s a) (hT : s 1 = nI T) (hT2 : T ≤ 6000) (hb : ∀ i, lx_byte s a i = bf i) (h12 : a 12 = kept0) : ab_M y_Lexer_begin { frames := 7, cells := 0, slots := 0, locals := 320 } [.ref b] h (ab_A none (fun h1 => at_Lexer h1 b (lx_fin (lx_end T (lx_all bf T s a))) (lx_end T (lx_all bf T s a)).2 ∧ ab_fr (in_Lexer b) h h1)) := by
  have hl0 := hl; obtain ⟨go, g0, g6, g7, g8, g9, g12⟩ := hl
  replace go : h[b]? = some (.inr (1, [.ref (b + 1), .int (nI T), .int (s 2), .int (s 3), .int (s 4), .int (s 5), .ref (b + 2), .ref (b + 3), .ref (b + 4), .ref (b + 5), .int (s 10), .int (s 11), .ref (b + 6)])) := (by rw [← hT]; exact go)
  refine ab_of2 (lv := [some (.ref b), none, none, none]) 3 rfl rfl (Nat.le_of_ble_eq_true rfl) ?_
  refine ab_aload_n d_Lexer_begin_0 rfl rfl rfl ?_
  refine ab_iconst (v := 0) d_Lexer_begin_1 (by decide) ?_
  refine ab_put (f := 10) d_Lexer_begin_2 go rfl (by decide) (k1 112 rfl rfl) rfl rfl (fun _ => rfl) (fun _ => rfl) (Nat.le_of_ble_eq_true rfl) ?_
  show ab_V _ _ _ _ _ _ _ 5 [some (.ref b), none, none, none] [] (h.set b (.inr (1, [.ref (b + 1), .int (nI T), .int (s 2), .int (s 3), .int (s 4), .int (s 5), .ref (b + 2), .ref (b + 3), .ref (b + 4), .ref (b + 5), .int 0, .int (s 11), .ref (b + 6)])))
  refine ab_gen (fun h1 e2 => ?_)
  have c3 : h1[b]? = some (.inr (1, [.ref (b + 1), .int (nI T), .int (s 2), .int (s 3), .int (s 4), .int (s 5), .ref (b + 2), .ref (b + 3), .ref (b + 4), .ref (b + 5), .int 0, .int (s 11), .ref (b + 6)])) := ab_self e2 go
  have c4 : h1[b+1]? = some (.inl (.byte, 6000, .inl (a 0))) := ab_other e2 (by omega) g0
  have c5 : h1[b+2]? = some (.inl (.int, 6001, .inl (a 6))) := ab_other e2 (by omega) g6
  have c6 : h1[b+3]? = some (.inl (.int, 6001, .inl (a 7))) := ab_other e2 (by omega) g7
  have c7 : h1[b+4]? = some (.inl (.int, 6001, .inl (a 8))) := ab_other e2 (by omega) g8
  have c8 : h1[b+5]? = some (.inl (.boolean, 6001, .inl (a 9))) := ab_other e2 (by omega) g9
  have c9 : h1[b+6]? = some (.inl (.int, 42, .inl (a 12))) := ab_other e2 (by omega) g12
  refine ab_aload_n d_Lexer_begin_5 rfl rfl rfl ?_
  refine ab_iconst (v := 0) d_Lexer_begin_6 (by decide) ?_
  refine ab_put (f := 4) d_Lexer_begin_7 c3 rfl (by decide) (k1 104 rfl rfl) rfl rfl (fun _ => rfl) (fun _ => rfl) (Nat.le_of_ble_eq_true rfl) ?_
  show ab_V _ _ _ _ _ _ _ 10 [some (.ref b), none, none, none] [] (h1.set b (.inr (1, [.ref (b + 1), .int (nI T), .int (s 2), .int (s 3), .int 0, .int (s 5), .ref (b + 2), .ref (b + 3), .ref (b + 4), .ref (b + 5), .int 0, .int (s 11), .ref (b + 6)])))
  refine ab_gen (fun h10 e11 => ?_)
  have c12 : h10[b]? = some (.inr (1, [.ref (b + 1), .int (nI T), .int (s 2), .int (s 3), .int 0, .int (s 5), .ref (b + 2), .ref (b + 3), .ref (b + 4), .ref (b + 5), .int 0, .int (s 11), .ref (b + 6)])) := ab_self e11 c3
  have c13 : h10[b+1]? = some (.inl (.byte, 6000, .inl (a 0))) := ab_other e11 (by omega) c4
  have c14 : h10[b+2]? = some (.inl (.int, 6001, .inl (a 6))) := ab_other e11 (by omega) c5
  have c15 : h10[b+3]? = some (.inl (.int, 6001, .inl (a 7))) := ab_other e11 (by omega) c6
  have c16 : h10[b+4]? = some (.inl (.int, 6001, .inl (a 8))) := ab_other e11 (by omega) c7
  have c17 : h10[b+5]? = some (.inl (.boolean, 6001, .inl (a 9))) := ab_other e11 (by omega) c8
  have c18 : h10[b+6]? = some (.inl (.int, 42, .inl (a 12))) := ab_other e11 (by omega) c9
  refine ab_aload_n d_Lexer_begin_10 rfl rfl rfl ?_
  refine ab_iconst (v := 0) d_Lexer_begin_11 (by decide) ?_
  refine ab_put (f := 5) d_Lexer_begin_12 c12 rfl (by decide) (k1 106 rfl rfl) rfl rfl (fun _ => rfl) (fun _ => rfl) (Nat.le_of_ble_eq_true rfl) ?_
  show ab_V _ _ _ _ _ _ _ 15 [some (.ref b), none, none, none] [] (h10.set b (.inr (1, [.ref (b + 1), .int (nI T), .int (s 2), .int (s 3), .int 0, .int 0, .ref (b + 2), .ref (b + 3), .ref (b + 4), .ref (b + 5), .int 0, .int (s 11), .ref (b + 6)])))
  refine ab_gen (fun h19 e20 => ?_)
  have c21 : h19[b]? = some (.inr (1, [.ref (b + 1), .int (nI T), .int (s 2), .int (s 3), .int 0, .int 0, .ref (b + 2), .ref (b + 3), .ref (b + 4), .ref (b + 5), .int 0, .int (s 11), .ref (b + 6)])) := ab_self e20 c12
  have c22 : h19[b+1]? = some (.inl (.byte, 6000, .inl (a 0))) := ab_other e20 (by omega) c13
  have c23 : h19[b+2]? = some (.inl (.int, 6001, .inl (a 6))) := ab_other e20 (by omega) c14
  have c24 : h19[b+3]? = some (.inl (.int, 6001, .inl (a 7))) := ab_other e20 (by omega) c15
  have c25 : h19[b+4]? = some (.inl (.int, 6001, .inl (a 8))) := ab_other e20 (by omega) c16
  have c26 : h19[b+5]? = some (.inl (.boolean, 6001, .inl (a 9))) := ab_other e20 (by omega) c17
  have c27 : h19[b+6]? = some (.inl (.int, 42, .inl (a 12))) := ab_other e20 (by omega) c18
  refine ab_iconst (v := 1) d_Lexer_begin_15 (by decide) ?_
  refine ab_istore_n (lv' := [some (.ref b), some (.int 1), none, none]) d_Lexer_begin_16 rfl (by decide) rfl ?_
  refine ab_aload_n d_Lexer_begin_17 rfl rfl rfl ?_
  refine ab_iconst (v := 0) d_Lexer_begin_18 (by decide) ?_
  have hA : at_Lexer h19 b (lx_s0 s) a := ⟨(by have z := c21; rw [← hT] at z; exact z), c22, c23, c24, c25, c26, c27⟩
  have hA1 : lx_s0 s 1 = nI T := hT
  have hA10 : lx_s0 s 10 = nI 0 := rfl
  have hAb : ∀ j, lx_byte (lx_s0 s) a j = bf j := hb
  refine ab_callV_a (As := [.int 0]) (rest := []) d_Lexer_begin_19 ((show ab_M y_Lexer_behindBlanks _ [.ref b, .int 0] _ _ from c_Lexer_behindBlanks (f := 0) hA hA1 hT2 hAb (by omega))) (ab_mkC s_Lexer_behindBlanks (Nat.le_of_ble_eq_true rfl) (Nat.le_of_ble_eq_true rfl) (by decide) (by decide)) (k3 222 rfl rfl) i_Lexer_behindBlanks v_Lexer_behindBlanks c21 rfl rfl (Nat.le_of_ble_eq_true rfl) (fun h28 q29 => ?_)
  subst q29
  refine ab_topi (fun x30 ex30 => ?_)
  obtain rfl : x30 = nI (lx_bbn bf T 0) := ex30.trans (bbn_eq (by omega) (Nat.zero_le _)).1
  clear ex30
  refine ab_istore_n (lv' := [some (.ref b), some (.int 1), some (.int (nI (lx_bbn bf T 0))), none]) d_Lexer_begin_22 rfl (by decide) rfl ?_
  refine ab_iconst (v := 0) d_Lexer_begin_23 (by decide) ?_
  refine ab_istore_n (lv' := [some (.ref b), some (.int 1), some (.int (nI (lx_bbn bf T 0))), some (.int 0)]) d_Lexer_begin_24 rfl (by decide) rfl ?_
  refine l_go hT2 (by first | decide | exact Nat.le_refl _) (by first | decide | exact Nat.le_refl _) T (lx_bbn bf T 0) 0 0 (lx_s0 s) a h19 (by omega) (bbn_eq (by omega) (Nat.zero_le _)).2.2 (by omega) (by omega) hA1 hA10 hAb h12 hA (fun h5 x5 y5 hB frB => ?_)
  obtain ⟨g, eg⟩ : ∃ z, z = lx_all bf T s a := ⟨_, rfl⟩
  obtain ⟨hi1, ⟨c5, hi10, hc5⟩, hi12⟩ := go_inv (bf := bf) T (lx_bbn bf T 0) 0 (lx_s0 s) a hA1 hA10 (by omega)
  replace hB : at_Lexer h5 b g.1 g.2.1 := (by rw [eg]; exact hB)
  replace hi1 : g.1 1 = nI T := (by rw [eg]; exact hi1)
  replace hi10 : g.1 10 = nI c5 := (by rw [eg]; exact hi10)
  have frA : ab_fr (in_Lexer b) h h19 := (ab_fr_set (ab_fr_set (ab_fr_set (ab_fr_rf _ _) e2 (by first | (show _ ∧ _; omega) | (show _ ∨ _; omega) | (show _ = _; omega) | (show _ ≤ _; omega))) e11 (by first | (show _ ∧ _; omega) | (show _ ∨ _; omega) | (show _ = _; omega) | (show _ ≤ _; omega))) e20 (by first | (show _ ∧ _; omega) | (show _ ∨ _; omega) | (show _ = _; omega) | (show _ ≤ _; omega)))
  have frC : ab_fr (in_Lexer b) h h5 := ab_fr_tr frA frB
  show ab_V _ _ _ _ _ _ _ _ [some (.ref b), some (.int (lx_all bf T s a).2.2), some (.int x5), some (.int y5)] _ _
  rw [← eg]
  have hBs := hB
  obtain ⟨k31o, k310, k316, k317, k318, k319, k3112⟩ := hB
  replace k31o : h5[b]? = some (.inr (1, [.ref (b + 1), .int (nI T), .int (g.1 2), .int (g.1 3), .int (g.1 4), .int (g.1 5), .ref (b + 2), .ref (b + 3), .ref (b + 4), .ref (b + 5), .int (g.1 10), .int (g.1 11), .ref (b + 6)])) := (by rw [← hi1]; exact k31o)
  refine ab_iload_n d_Lexer_begin_88 rfl rfl ?_
  refine ab_if_eq (tgt := 103) d_Lexer_begin_89 (by decide) (fun q32 => ?_) (fun q32 => ?_)
  · refine ab_aload_n d_Lexer_begin_103 rfl rfl rfl ?_
    refine ab_iconst (v := 0) d_Lexer_begin_104 (by decide) ?_
    refine ab_put (f := 11) d_Lexer_begin_105 k31o rfl (by decide) (k1 113 rfl rfl) rfl rfl (fun _ => rfl) (fun _ => rfl) (Nat.le_of_ble_eq_true rfl) ?_
    show ab_V _ _ _ _ _ _ _ 108 [some (.ref b), some (.int g.2.2), some (.int x5), some (.int y5)] [] (h5.set b (.inr (1, [.ref (b + 1), .int (nI T), .int (g.1 2), .int (g.1 3), .int (g.1 4), .int (g.1 5), .ref (b + 2), .ref (b + 3), .ref (b + 4), .ref (b + 5), .int (g.1 10), .int 0, .ref (b + 6)])))
    refine ab_gen (fun h33 e34 => ?_)
    have c35 : h33[b]? = some (.inr (1, [.ref (b + 1), .int (nI T), .int (g.1 2), .int (g.1 3), .int (g.1 4), .int (g.1 5), .ref (b + 2), .ref (b + 3), .ref (b + 4), .ref (b + 5), .int (g.1 10), .int 0, .ref (b + 6)])) := ab_self e34 k31o
    have c36 : h33[b+1]? = some (.inl (.byte, 6000, .inl (g.2.1 0))) := ab_other e34 (by omega) k310
    have c37 : h33[b+2]? = some (.inl (.int, 6001, .inl (g.2.1 6))) := ab_other e34 (by omega) k316
    have c38 : h33[b+3]? = some (.inl (.int, 6001, .inl (g.2.1 7))) := ab_other e34 (by omega) k317
    have c39 : h33[b+4]? = some (.inl (.int, 6001, .inl (g.2.1 8))) := ab_other e34 (by omega) k318
    have c40 : h33[b+5]? = some (.inl (.boolean, 6001, .inl (g.2.1 9))) := ab_other e34 (by omega) k319
    have c41 : h33[b+6]? = some (.inl (.int, 42, .inl (g.2.1 12))) := ab_other e34 (by omega) k3112
    refine ab_aload_n d_Lexer_begin_108 rfl rfl rfl ?_
    refine ab_aload_n d_Lexer_begin_109 rfl rfl rfl ?_
    refine ab_get (f := 6) d_Lexer_begin_110 c35 rfl (by decide) (k1 108 rfl rfl) rfl ?_
    refine ab_iconst (v := 0) d_Lexer_begin_113 (by decide) ?_
    refine ab_iald d_Lexer_begin_114 tI c37 (in_of (by decide) (by decide) (by decide)) ?_
    refine ab_topi (fun x42 ex42 => ?_)
    refine ab_put (f := 2) d_Lexer_begin_115 c35 rfl (by decide) (k1 100 rfl rfl) rfl rfl (fun _ => rfl) (fun _ => rfl) (Nat.le_of_ble_eq_true rfl) ?_
    show ab_V _ _ _ _ _ _ _ 118 [some (.ref b), some (.int g.2.2), some (.int x5), some (.int y5)] [] (h33.set b (.inr (1, [.ref (b + 1), .int (nI T), .int x42, .int (g.1 3), .int (g.1 4), .int (g.1 5), .ref (b + 2), .ref (b + 3), .ref (b + 4), .ref (b + 5), .int (g.1 10), .int 0, .ref (b + 6)])))
    refine ab_gen (fun h43 e44 => ?_)
    have c45 : h43[b]? = some (.inr (1, [.ref (b + 1), .int (nI T), .int x42, .int (g.1 3), .int (g.1 4), .int (g.1 5), .ref (b + 2), .ref (b + 3), .ref (b + 4), .ref (b + 5), .int (g.1 10), .int 0, .ref (b + 6)])) := ab_self e44 c35
    have c46 : h43[b+1]? = some (.inl (.byte, 6000, .inl (g.2.1 0))) := ab_other e44 (by omega) c36
    have c47 : h43[b+2]? = some (.inl (.int, 6001, .inl (g.2.1 6))) := ab_other e44 (by omega) c37
    have c48 : h43[b+3]? = some (.inl (.int, 6001, .inl (g.2.1 7))) := ab_other e44 (by omega) c38
    have c49 : h43[b+4]? = some (.inl (.int, 6001, .inl (g.2.1 8))) := ab_other e44 (by omega) c39
    have c50 : h43[b+5]? = some (.inl (.boolean, 6001, .inl (g.2.1 9))) := ab_other e44 (by omega) c40
    have c51 : h43[b+6]? = some (.inl (.int, 42, .inl (g.2.1 12))) := ab_other e44 (by omega) c41
    refine ab_aload_n d_Lexer_begin_118 rfl rfl rfl ?_
    refine ab_aload_n d_Lexer_begin_119 rfl rfl rfl ?_
    refine ab_get (f := 7) d_Lexer_begin_120 c45 rfl (by decide) (k1 109 rfl rfl) rfl ?_
    refine ab_iconst (v := 0) d_Lexer_begin_123 (by decide) ?_
    refine ab_iald d_Lexer_begin_124 tI c48 (in_of (by decide) (by decide) (by decide)) ?_
    refine ab_topi (fun x52 ex52 => ?_)
    refine ab_put (f := 3) d_Lexer_begin_125 c45 rfl (by decide) (k1 102 rfl rfl) rfl rfl (fun _ => rfl) (fun _ => rfl) (Nat.le_of_ble_eq_true rfl) ?_
    show ab_V _ _ _ _ _ _ _ 128 [some (.ref b), some (.int g.2.2), some (.int x5), some (.int y5)] [] (h43.set b (.inr (1, [.ref (b + 1), .int (nI T), .int x42, .int x52, .int (g.1 4), .int (g.1 5), .ref (b + 2), .ref (b + 3), .ref (b + 4), .ref (b + 5), .int (g.1 10), .int 0, .ref (b + 6)])))
    refine ab_gen (fun h53 e54 => ?_)
    have c55 : h53[b]? = some (.inr (1, [.ref (b + 1), .int (nI T), .int x42, .int x52, .int (g.1 4), .int (g.1 5), .ref (b + 2), .ref (b + 3), .ref (b + 4), .ref (b + 5), .int (g.1 10), .int 0, .ref (b + 6)])) := ab_self e54 c45
    have c56 : h53[b+1]? = some (.inl (.byte, 6000, .inl (g.2.1 0))) := ab_other e54 (by omega) c46
    have c57 : h53[b+2]? = some (.inl (.int, 6001, .inl (g.2.1 6))) := ab_other e54 (by omega) c47
    have c58 : h53[b+3]? = some (.inl (.int, 6001, .inl (g.2.1 7))) := ab_other e54 (by omega) c48
    have c59 : h53[b+4]? = some (.inl (.int, 6001, .inl (g.2.1 8))) := ab_other e54 (by omega) c49
    have c60 : h53[b+5]? = some (.inl (.boolean, 6001, .inl (g.2.1 9))) := ab_other e54 (by omega) c50
    have c61 : h53[b+6]? = some (.inl (.int, 42, .inl (g.2.1 12))) := ab_other e54 (by omega) c51
    exact ab_vret d_Lexer_begin_128 rfl (Nat.le_refl _) (Nat.le_refl _) (by subst ex42; subst ex52; rw [show lx_end T g = (g.1, g.2.1) from if_pos q32]; refine ⟨rfl, ⟨?_, c56, c57, c58, c59, c60, c61⟩, (ab_fr_tr frC (ab_fr_set (ab_fr_set (ab_fr_set (ab_fr_rf _ _) e34 (by first | (show _ ∧ _; omega) | (show _ ∨ _; omega) | (show _ = _; omega) | (show _ ≤ _; omega))) e44 (by first | (show _ ∧ _; omega) | (show _ ∨ _; omega) | (show _ = _; omega) | (show _ ≤ _; omega))) e54 (by first | (show _ ∧ _; omega) | (show _ ∨ _; omega) | (show _ = _; omega) | (show _ ≤ _; omega))))⟩; rw [show lx_fin (g.1, g.2.1) 1 = nI T from hi1]; exact c55)
  · refine ab_aload_n d_Lexer_begin_92 rfl rfl rfl ?_
    refine ab_iconst (v := 0) d_Lexer_begin_93 (by decide) ?_
    refine ab_aload_n d_Lexer_begin_94 rfl rfl rfl ?_
    refine ab_get (f := 1) d_Lexer_begin_95 k31o rfl (by decide) (k1 95 rfl rfl) rfl ?_
    refine ab_iconst (v := 0) d_Lexer_begin_98 (by decide) ?_
    refine ab_iconst (v := 0) d_Lexer_begin_99 (by decide) ?_
    refine ab_callV_v (As := [.int 0, .int (nI T), .int 0, .int 0]) (rest := []) d_Lexer_begin_100 (c_Lexer_note hBs (by rw [hi10]; exact nI_pos (by omega))) (ab_mkC s_Lexer_note (Nat.le_of_ble_eq_true rfl) (Nat.le_of_ble_eq_true rfl) (by decide) (by decide)) (k4 8 rfl rfl) i_Lexer_note v_Lexer_note k31o rfl rfl (Nat.le_of_ble_eq_true rfl) (fun h62 q63 => ?_)
    obtain ⟨hD, frD⟩ := q63
    have hd1 : sp_note_s g.1 1 = nI T := by rw [note_s1]; exact hi1
    have hDs := hD
    obtain ⟨k64o, k640, k646, k647, k648, k649, k6412⟩ := hD
    replace k64o : h62[b]? = some (.inr (1, [.ref (b + 1), .int (nI T), .int ((sp_note_s g.1) 2), .int ((sp_note_s g.1) 3), .int ((sp_note_s g.1) 4), .int ((sp_note_s g.1) 5), .ref (b + 2), .ref (b + 3), .ref (b + 4), .ref (b + 5), .int ((sp_note_s g.1) 10), .int ((sp_note_s g.1) 11), .ref (b + 6)])) := (by rw [← hd1]; exact k64o)
    refine ab_aload_n d_Lexer_begin_103 rfl rfl rfl ?_
    refine ab_iconst (v := 0) d_Lexer_begin_104 (by decide) ?_
    refine ab_put (f := 11) d_Lexer_begin_105 k64o rfl (by decide) (k1 113 rfl rfl) rfl rfl (fun _ => rfl) (fun _ => rfl) (Nat.le_of_ble_eq_true rfl) ?_
    show ab_V _ _ _ _ _ _ _ 108 [some (.ref b), some (.int g.2.2), some (.int x5), some (.int y5)] [] (h62.set b (.inr (1, [.ref (b + 1), .int (nI T), .int ((sp_note_s g.1) 2), .int ((sp_note_s g.1) 3), .int ((sp_note_s g.1) 4), .int ((sp_note_s g.1) 5), .ref (b + 2), .ref (b + 3), .ref (b + 4), .ref (b + 5), .int ((sp_note_s g.1) 10), .int 0, .ref (b + 6)])))
    refine ab_gen (fun h65 e66 => ?_)
    have c67 : h65[b]? = some (.inr (1, [.ref (b + 1), .int (nI T), .int ((sp_note_s g.1) 2), .int ((sp_note_s g.1) 3), .int ((sp_note_s g.1) 4), .int ((sp_note_s g.1) 5), .ref (b + 2), .ref (b + 3), .ref (b + 4), .ref (b + 5), .int ((sp_note_s g.1) 10), .int 0, .ref (b + 6)])) := ab_self e66 k64o
    have c68 : h65[b+1]? = some (.inl (.byte, 6000, .inl ((sp_note_a g.1 g.2.1 0 (nI T) 0 0) 0))) := ab_other e66 (by omega) k640
    have c69 : h65[b+2]? = some (.inl (.int, 6001, .inl ((sp_note_a g.1 g.2.1 0 (nI T) 0 0) 6))) := ab_other e66 (by omega) k646
    have c70 : h65[b+3]? = some (.inl (.int, 6001, .inl ((sp_note_a g.1 g.2.1 0 (nI T) 0 0) 7))) := ab_other e66 (by omega) k647
    have c71 : h65[b+4]? = some (.inl (.int, 6001, .inl ((sp_note_a g.1 g.2.1 0 (nI T) 0 0) 8))) := ab_other e66 (by omega) k648
    have c72 : h65[b+5]? = some (.inl (.boolean, 6001, .inl ((sp_note_a g.1 g.2.1 0 (nI T) 0 0) 9))) := ab_other e66 (by omega) k649
    have c73 : h65[b+6]? = some (.inl (.int, 42, .inl ((sp_note_a g.1 g.2.1 0 (nI T) 0 0) 12))) := ab_other e66 (by omega) k6412
    refine ab_aload_n d_Lexer_begin_108 rfl rfl rfl ?_
    refine ab_aload_n d_Lexer_begin_109 rfl rfl rfl ?_
    refine ab_get (f := 6) d_Lexer_begin_110 c67 rfl (by decide) (k1 108 rfl rfl) rfl ?_
    refine ab_iconst (v := 0) d_Lexer_begin_113 (by decide) ?_
    refine ab_iald d_Lexer_begin_114 tI c69 (in_of (by decide) (by decide) (by decide)) ?_
    refine ab_topi (fun x74 ex74 => ?_)
    refine ab_put (f := 2) d_Lexer_begin_115 c67 rfl (by decide) (k1 100 rfl rfl) rfl rfl (fun _ => rfl) (fun _ => rfl) (Nat.le_of_ble_eq_true rfl) ?_
    show ab_V _ _ _ _ _ _ _ 118 [some (.ref b), some (.int g.2.2), some (.int x5), some (.int y5)] [] (h65.set b (.inr (1, [.ref (b + 1), .int (nI T), .int x74, .int ((sp_note_s g.1) 3), .int ((sp_note_s g.1) 4), .int ((sp_note_s g.1) 5), .ref (b + 2), .ref (b + 3), .ref (b + 4), .ref (b + 5), .int ((sp_note_s g.1) 10), .int 0, .ref (b + 6)])))
    refine ab_gen (fun h75 e76 => ?_)
    have c77 : h75[b]? = some (.inr (1, [.ref (b + 1), .int (nI T), .int x74, .int ((sp_note_s g.1) 3), .int ((sp_note_s g.1) 4), .int ((sp_note_s g.1) 5), .ref (b + 2), .ref (b + 3), .ref (b + 4), .ref (b + 5), .int ((sp_note_s g.1) 10), .int 0, .ref (b + 6)])) := ab_self e76 c67
    have c78 : h75[b+1]? = some (.inl (.byte, 6000, .inl ((sp_note_a g.1 g.2.1 0 (nI T) 0 0) 0))) := ab_other e76 (by omega) c68
    have c79 : h75[b+2]? = some (.inl (.int, 6001, .inl ((sp_note_a g.1 g.2.1 0 (nI T) 0 0) 6))) := ab_other e76 (by omega) c69
    have c80 : h75[b+3]? = some (.inl (.int, 6001, .inl ((sp_note_a g.1 g.2.1 0 (nI T) 0 0) 7))) := ab_other e76 (by omega) c70
    have c81 : h75[b+4]? = some (.inl (.int, 6001, .inl ((sp_note_a g.1 g.2.1 0 (nI T) 0 0) 8))) := ab_other e76 (by omega) c71
    have c82 : h75[b+5]? = some (.inl (.boolean, 6001, .inl ((sp_note_a g.1 g.2.1 0 (nI T) 0 0) 9))) := ab_other e76 (by omega) c72
    have c83 : h75[b+6]? = some (.inl (.int, 42, .inl ((sp_note_a g.1 g.2.1 0 (nI T) 0 0) 12))) := ab_other e76 (by omega) c73
    refine ab_aload_n d_Lexer_begin_118 rfl rfl rfl ?_
    refine ab_aload_n d_Lexer_begin_119 rfl rfl rfl ?_
    refine ab_get (f := 7) d_Lexer_begin_120 c77 rfl (by decide) (k1 109 rfl rfl) rfl ?_
    refine ab_iconst (v := 0) d_Lexer_begin_123 (by decide) ?_
    refine ab_iald d_Lexer_begin_124 tI c80 (in_of (by decide) (by decide) (by decide)) ?_
    refine ab_topi (fun x84 ex84 => ?_)
    refine ab_put (f := 3) d_Lexer_begin_125 c77 rfl (by decide) (k1 102 rfl rfl) rfl rfl (fun _ => rfl) (fun _ => rfl) (Nat.le_of_ble_eq_true rfl) ?_
    show ab_V _ _ _ _ _ _ _ 128 [some (.ref b), some (.int g.2.2), some (.int x5), some (.int y5)] [] (h75.set b (.inr (1, [.ref (b + 1), .int (nI T), .int x74, .int x84, .int ((sp_note_s g.1) 4), .int ((sp_note_s g.1) 5), .ref (b + 2), .ref (b + 3), .ref (b + 4), .ref (b + 5), .int ((sp_note_s g.1) 10), .int 0, .ref (b + 6)])))
    refine ab_gen (fun h85 e86 => ?_)
    have c87 : h85[b]? = some (.inr (1, [.ref (b + 1), .int (nI T), .int x74, .int x84, .int ((sp_note_s g.1) 4), .int ((sp_note_s g.1) 5), .ref (b + 2), .ref (b + 3), .ref (b + 4), .ref (b + 5), .int ((sp_note_s g.1) 10), .int 0, .ref (b + 6)])) := ab_self e86 c77
    have c88 : h85[b+1]? = some (.inl (.byte, 6000, .inl ((sp_note_a g.1 g.2.1 0 (nI T) 0 0) 0))) := ab_other e86 (by omega) c78
    have c89 : h85[b+2]? = some (.inl (.int, 6001, .inl ((sp_note_a g.1 g.2.1 0 (nI T) 0 0) 6))) := ab_other e86 (by omega) c79
    have c90 : h85[b+3]? = some (.inl (.int, 6001, .inl ((sp_note_a g.1 g.2.1 0 (nI T) 0 0) 7))) := ab_other e86 (by omega) c80
    have c91 : h85[b+4]? = some (.inl (.int, 6001, .inl ((sp_note_a g.1 g.2.1 0 (nI T) 0 0) 8))) := ab_other e86 (by omega) c81
    have c92 : h85[b+5]? = some (.inl (.boolean, 6001, .inl ((sp_note_a g.1 g.2.1 0 (nI T) 0 0) 9))) := ab_other e86 (by omega) c82
    have c93 : h85[b+6]? = some (.inl (.int, 42, .inl ((sp_note_a g.1 g.2.1 0 (nI T) 0 0) 12))) := ab_other e86 (by omega) c83
    exact ab_vret d_Lexer_begin_128 rfl (Nat.le_refl _) (Nat.le_refl _) (by subst ex74; subst ex84; rw [show lx_end T g = (sp_note_s g.1, sp_note_a g.1 g.2.1 0 (nI T) 0 0) from if_neg q32]; refine ⟨rfl, ⟨?_, c88, c89, c90, c91, c92, c93⟩, (ab_fr_tr frC (ab_fr_set (ab_fr_set (ab_fr_set (ab_fr_tr (ab_fr_rf _ _) frD) e66 (by first | (show _ ∧ _; omega) | (show _ ∨ _; omega) | (show _ = _; omega) | (show _ ≤ _; omega))) e76 (by first | (show _ ∧ _; omega) | (show _ ∨ _; omega) | (show _ = _; omega) | (show _ ≤ _; omega))) e86 (by first | (show _ ∧ _; omega) | (show _ ∨ _; omega) | (show _ = _; omega) | (show _ ≤ _; omega))))⟩; rw [show lx_fin (sp_note_s g.1, sp_note_a g.1 g.2.1 0 (nI T) 0 0) 1 = nI T from hd1]; exact c87)
