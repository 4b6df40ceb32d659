set_option maxRecDepth 20000 in
theorem ow_Lexer_131 : ∀ a ∈ Bundle.ownAtoms "WorldEngine$Lexer" 131 "java/lang/IllegalStateException" ["java/lang/RuntimeException", "java/lang/Exception"], a ∈ ab_T ∨ a = .laysStatic Bundle.tN "UNASSIGNED_STACK" Bundle.steD ∨ a = .laysStatic Bundle.tN "SUPPRESSED_SENTINEL" Bundle.listD ∨ a = .isRef (.static Bundle.tN "UNASSIGNED_STACK" Bundle.steD) ∨ a = .isRef (.static Bundle.tN "SUPPRESSED_SENTINEL" Bundle.listD) := List.forall_mem_cons.mpr ⟨Or.inl (k1 24 rfl rfl), List.forall_mem_cons.mpr ⟨Or.inl (k4 123 rfl rfl), List.forall_mem_cons.mpr ⟨Or.inl (k4 132 rfl rfl), List.forall_mem_cons.mpr ⟨Or.inl (k4 135 rfl rfl), List.forall_mem_cons.mpr ⟨Or.inl (k4 138 rfl rfl), List.forall_mem_cons.mpr ⟨Or.inl (k4 140 rfl rfl), List.forall_mem_cons.mpr ⟨Or.inl (k4 124 rfl rfl), List.forall_mem_cons.mpr ⟨Or.inl (k4 125 rfl rfl), List.forall_mem_cons.mpr ⟨Or.inl (k1 37 rfl rfl), List.forall_mem_cons.mpr ⟨Or.inl (k1 38 rfl rfl), List.forall_mem_cons.mpr ⟨Or.inl (k4 126 rfl rfl), List.forall_mem_cons.mpr ⟨Or.inl (k4 131 rfl rfl), List.forall_mem_cons.mpr ⟨Or.inl (k4 136 rfl rfl), List.forall_mem_cons.mpr ⟨Or.inl (k4 156 rfl rfl), List.forall_mem_cons.mpr ⟨Or.inl (k4 113 rfl rfl), List.forall_mem_cons.mpr ⟨Or.inl (k4 157 rfl rfl), List.forall_mem_cons.mpr ⟨Or.inl (k4 115 rfl rfl), List.forall_mem_cons.mpr ⟨Or.inl (k4 158 rfl rfl), List.forall_mem_cons.mpr ⟨Or.inl (k4 117 rfl rfl), List.forall_mem_cons.mpr ⟨Or.inl (k4 127 rfl rfl), List.forall_mem_cons.mpr ⟨Or.inr (Or.inl rfl), List.forall_mem_cons.mpr ⟨Or.inl (k4 129 rfl rfl), List.forall_mem_cons.mpr ⟨Or.inr (Or.inr (Or.inl rfl)), List.forall_mem_cons.mpr ⟨Or.inl (k4 119 rfl rfl), List.forall_mem_cons.mpr ⟨Or.inl (k4 152 rfl rfl), List.forall_mem_cons.mpr ⟨Or.inl (k4 153 rfl rfl), List.forall_mem_cons.mpr ⟨Or.inl (k4 155 rfl rfl), List.forall_mem_cons.mpr ⟨Or.inl (k4 119 rfl rfl), List.forall_mem_cons.mpr ⟨Or.inl (k4 143 rfl rfl), List.forall_mem_cons.mpr ⟨Or.inl (k4 144 rfl rfl), List.forall_mem_cons.mpr ⟨Or.inl (k4 145 rfl rfl), List.forall_mem_cons.mpr ⟨Or.inl (k4 146 rfl rfl), List.forall_mem_cons.mpr ⟨Or.inl (k4 105 rfl rfl), List.forall_mem_cons.mpr ⟨Or.inl (k4 146 rfl rfl), List.forall_mem_cons.mpr ⟨Or.inl (k4 147 rfl rfl), List.forall_mem_cons.mpr ⟨Or.inl (k4 148 rfl rfl), List.forall_mem_cons.mpr ⟨Or.inl (k4 149 rfl rfl), List.forall_mem_cons.mpr ⟨Or.inl (k4 107 rfl rfl), List.forall_mem_cons.mpr ⟨Or.inl (k4 149 rfl rfl), List.forall_mem_cons.mpr ⟨Or.inl (k4 150 rfl rfl), List.forall_mem_cons.mpr ⟨Or.inl (k4 151 rfl rfl), List.forall_mem_cons.mpr ⟨Or.inl (k4 152 rfl rfl), List.forall_mem_cons.mpr ⟨Or.inl (k4 109 rfl rfl), List.forall_mem_cons.mpr ⟨Or.inl (k4 142 rfl rfl), List.forall_mem_cons.mpr ⟨Or.inl (k4 102 rfl rfl), List.forall_mem_cons.mpr ⟨Or.inl (k4 103 rfl rfl), List.forall_mem_cons.mpr ⟨Or.inl (k4 110 rfl rfl), List.forall_mem_cons.mpr ⟨Or.inl (k4 111 rfl rfl), List.forall_mem_cons.mpr ⟨Or.inl (k4 112 rfl rfl), List.forall_mem_cons.mpr ⟨Or.inl (k4 114 rfl rfl), List.forall_mem_cons.mpr ⟨Or.inl (k4 116 rfl rfl), List.forall_mem_cons.mpr ⟨Or.inl (k4 118 rfl rfl), List.forall_mem_cons.mpr ⟨Or.inr (Or.inr (Or.inr (Or.inl rfl))), List.forall_mem_cons.mpr ⟨Or.inr (Or.inr (Or.inr (Or.inr rfl))), List.forall_mem_cons.mpr ⟨Or.inl (k4 122 rfl rfl), List.forall_mem_cons.mpr ⟨Or.inl (k4 121 rfl rfl), List.forall_mem_cons.mpr ⟨Or.inl (k4 120 rfl rfl), fun _ h => absurd h List.not_mem_nil⟩⟩⟩⟩⟩⟩⟩⟩⟩⟩⟩⟩⟩⟩⟩⟩⟩⟩⟩⟩⟩⟩⟩⟩⟩⟩⟩⟩⟩⟩⟩⟩⟩⟩⟩⟩⟩⟩⟩⟩⟩⟩⟩⟩⟩⟩⟩⟩⟩⟩⟩⟩⟩⟩⟩⟩⟩
theorem in_ofN {x : Int32} {n : Nat} {k : Nat} (hn : n < 2 ^ 31) (hk : k < 2 ^ 31) (e : x = nI k) (h1 : ¬ nI n ≤ x) : vp_in x n := in_of hn (by rw [e]; exact nI_pos hk) h1
set_option maxRecDepth 20000 in
set_option maxHeartbeats 2000000 in
theorem c_Lexer_byteAt {h : List ab_E} {b : Nat} {s : Nat → Int32} {a : Nat → Nat → Int32} {i : Int32} {n : Nat} (hl : at_Lexer h b s a) (hi : ¬ i < 0) (hn : s 1 = nI n) (hn2 : n ≤ 6000) : ab_M y_Lexer_byteAt { frames := 0, cells := 0, slots := 0, locals := 0 } [.ref b, .int i] h (ab_A (some (.int (if ¬ s 1 ≤ i then a 0 i.toNatClampNeg &&& 255 else 0))) (fun h1 => h = h1)) := by
  have hl0 := hl; obtain ⟨go, g0, g6, g7, g8, g9, g12⟩ := hl
  refine ab_of2 (lv := [some (.ref b), some (.int i)]) 0 rfl rfl (Nat.le_of_ble_eq_true rfl) ?_
  refine ab_iload_n d_Lexer_byteAt_0 rfl rfl ?_
  refine ab_aload_n d_Lexer_byteAt_1 rfl rfl rfl ?_
  refine ab_get (f := 1) d_Lexer_byteAt_2 go rfl (by decide) (k1 95 rfl rfl) rfl ?_
  refine ab_icmp_ge (tgt := 21) d_Lexer_byteAt_5 (by decide) (fun q1 => ?_) (fun q1 => ?_)
  · refine ab_iconst (v := 0) d_Lexer_byteAt_21 (by decide) ?_
    exact ab_iret d_Lexer_byteAt_22 rfl (Nat.le_refl _) (Nat.le_refl _) ⟨by first | rw [if_pos (by assumption)] | rw [if_neg (fun z => z (by assumption))], rfl⟩
  · refine ab_aload_n d_Lexer_byteAt_8 rfl rfl rfl ?_
    refine ab_get (f := 0) d_Lexer_byteAt_9 go rfl (by decide) (k1 94 rfl rfl) rfl ?_
    refine ab_iload_n d_Lexer_byteAt_12 rfl rfl ?_
    refine ab_bald d_Lexer_byteAt_13 tB g0 (in_of (by decide) hi (by rw [hn] at q1; intro z; exact q1 (Int32.le_trans (nI_le hn2 (by decide)) z))) ?_
    refine ab_sipush (v := 255) d_Lexer_byteAt_14 (by decide) ?_
    refine ab_iand d_Lexer_byteAt_17 ?_
    refine ab_goto (tgt := 22) d_Lexer_byteAt_18 (by decide) ?_
    exact ab_iret d_Lexer_byteAt_22 rfl (Nat.le_refl _) (Nat.le_refl _) ⟨by first | rw [if_pos (by assumption)] | rw [if_neg (fun z => z (by assumption))], rfl⟩
def sp_note_s (s : Nat → Int32) : Nat → Int32 := if ¬ (6001 : Int32) ≤ s 10 then upd s 10 (s 10 + 1) else s
def sp_note_a (s : Nat → Int32) (a : Nat → Nat → Int32) (k p v t : Int32) : Nat → Nat → Int32 := if ¬ (6001 : Int32) ≤ s 10 then upa (upa (upa (upa a 6 (upd (a 6) (s 10).toNatClampNeg k)) 7 (upd (a 7) (s 10).toNatClampNeg p)) 8 (upd (a 8) (s 10).toNatClampNeg v)) 9 (upd (a 9) (s 10).toNatClampNeg (vp_nar .boolean t)) else a
set_option maxRecDepth 20000 in
set_option maxHeartbeats 2000000 in
theorem c_Lexer_note {h : List ab_E} {b : Nat} {s : Nat → Int32} {a : Nat → Nat → Int32} {k p v t : Int32} (hl : at_Lexer h b s a) (hc : ¬ s 10 < 0) : ab_M y_Lexer_note { frames := 0, cells := 0, slots := 0, locals := 0 } [.ref b, .int k, .int p, .int v, .int t] h (ab_A none (fun h1 => at_Lexer h1 b (sp_note_s s) (sp_note_a s a k p v t) ∧ ab_fr (in_Lexer b) h h1)) := by
  have hl0 := hl; obtain ⟨go, g0, g6, g7, g8, g9, g12⟩ := hl
  refine ab_of2 (lv := [some (.ref b), some (.int k), some (.int p), some (.int v), some (.int t)]) 0 rfl rfl (Nat.le_of_ble_eq_true rfl) ?_
  refine ab_aload_n d_Lexer_note_0 rfl rfl rfl ?_
  refine ab_get (f := 10) d_Lexer_note_1 go rfl (by decide) (k1 112 rfl rfl) rfl ?_
  refine ab_aload_n d_Lexer_note_4 rfl rfl rfl ?_
  refine ab_get (f := 6) d_Lexer_note_5 go rfl (by decide) (k1 108 rfl rfl) rfl ?_
  refine ab_alen (v := 6001) d_Lexer_note_8 tI g6 (show Int32.ofNat 6001 = 6001 by decide) ?_
  refine ab_icmp_ge (tgt := 63) d_Lexer_note_9 (by decide) (fun q1 => ?_) (fun q1 => ?_)
  · exact ab_vret d_Lexer_note_63 rfl (Nat.le_refl _) (Nat.le_refl _) (by rw [sp_note_s, sp_note_a, if_neg (fun z => z (by assumption)), if_neg (fun z => z (by assumption))]; exact ⟨rfl, ⟨go, g0, g6, g7, g8, g9, g12⟩, (ab_fr_rf _ _)⟩)
  · refine ab_aload_n d_Lexer_note_12 rfl rfl rfl ?_
    refine ab_get (f := 6) d_Lexer_note_13 go rfl (by decide) (k1 108 rfl rfl) rfl ?_
    refine ab_aload_n d_Lexer_note_16 rfl rfl rfl ?_
    refine ab_get (f := 10) d_Lexer_note_17 go rfl (by decide) (k1 112 rfl rfl) rfl ?_
    refine ab_iload_n d_Lexer_note_20 rfl rfl ?_
    refine ab_iast d_Lexer_note_21 tI g6 (in_of (by decide) hc q1) ?_
    refine ab_gen (fun h2 e3 => ?_)
    have c4 : h2[b]? = some (.inr (1, [.ref (b + 1), .int (s 1), .int (s 2), .int (s 3), .int (s 4), .int (s 5), .ref (b + 2), .ref (b + 3), .ref (b + 4), .ref (b + 5), .int (s 10), .int (s 11), .ref (b + 6)])) := ab_other e3 (by omega) go
    have c5 : h2[b+1]? = some (.inl (.byte, 6000, .inl (a 0))) := ab_other e3 (by omega) g0
    have c6 : h2[b+2]? = some (.inl (.int, 6001, .inl (upd (a 6) ((s 10)).toNatClampNeg k))) := ab_self e3 g6
    have c7 : h2[b+3]? = some (.inl (.int, 6001, .inl (a 7))) := ab_other e3 (by omega) g7
    have c8 : h2[b+4]? = some (.inl (.int, 6001, .inl (a 8))) := ab_other e3 (by omega) g8
    have c9 : h2[b+5]? = some (.inl (.boolean, 6001, .inl (a 9))) := ab_other e3 (by omega) g9
    have c10 : h2[b+6]? = some (.inl (.int, 42, .inl (a 12))) := ab_other e3 (by omega) g12
    refine ab_aload_n d_Lexer_note_22 rfl rfl rfl ?_
    refine ab_get (f := 7) d_Lexer_note_23 c4 rfl (by decide) (k1 109 rfl rfl) rfl ?_
    refine ab_aload_n d_Lexer_note_26 rfl rfl rfl ?_
    refine ab_get (f := 10) d_Lexer_note_27 c4 rfl (by decide) (k1 112 rfl rfl) rfl ?_
    refine ab_iload_n d_Lexer_note_30 rfl rfl ?_
    refine ab_iast d_Lexer_note_31 tI c7 (in_of (by decide) hc q1) ?_
    refine ab_gen (fun h11 e12 => ?_)
    have c13 : h11[b]? = some (.inr (1, [.ref (b + 1), .int (s 1), .int (s 2), .int (s 3), .int (s 4), .int (s 5), .ref (b + 2), .ref (b + 3), .ref (b + 4), .ref (b + 5), .int (s 10), .int (s 11), .ref (b + 6)])) := ab_other e12 (by omega) c4
    have c14 : h11[b+1]? = some (.inl (.byte, 6000, .inl (a 0))) := ab_other e12 (by omega) c5
    have c15 : h11[b+2]? = some (.inl (.int, 6001, .inl (upd (a 6) ((s 10)).toNatClampNeg k))) := ab_other e12 (by omega) c6
    have c16 : h11[b+3]? = some (.inl (.int, 6001, .inl (upd (a 7) ((s 10)).toNatClampNeg p))) := ab_self e12 c7
    have c17 : h11[b+4]? = some (.inl (.int, 6001, .inl (a 8))) := ab_other e12 (by omega) c8
    have c18 : h11[b+5]? = some (.inl (.boolean, 6001, .inl (a 9))) := ab_other e12 (by omega) c9
    have c19 : h11[b+6]? = some (.inl (.int, 42, .inl (a 12))) := ab_other e12 (by omega) c10
    refine ab_aload_n d_Lexer_note_32 rfl rfl rfl ?_
    refine ab_get (f := 8) d_Lexer_note_33 c13 rfl (by decide) (k1 110 rfl rfl) rfl ?_
    refine ab_aload_n d_Lexer_note_36 rfl rfl rfl ?_
    refine ab_get (f := 10) d_Lexer_note_37 c13 rfl (by decide) (k1 112 rfl rfl) rfl ?_
    refine ab_iload_n d_Lexer_note_40 rfl rfl ?_
    refine ab_iast d_Lexer_note_41 tI c17 (in_of (by decide) hc q1) ?_
    refine ab_gen (fun h20 e21 => ?_)
    have c22 : h20[b]? = some (.inr (1, [.ref (b + 1), .int (s 1), .int (s 2), .int (s 3), .int (s 4), .int (s 5), .ref (b + 2), .ref (b + 3), .ref (b + 4), .ref (b + 5), .int (s 10), .int (s 11), .ref (b + 6)])) := ab_other e21 (by omega) c13
    have c23 : h20[b+1]? = some (.inl (.byte, 6000, .inl (a 0))) := ab_other e21 (by omega) c14
    have c24 : h20[b+2]? = some (.inl (.int, 6001, .inl (upd (a 6) ((s 10)).toNatClampNeg k))) := ab_other e21 (by omega) c15
    have c25 : h20[b+3]? = some (.inl (.int, 6001, .inl (upd (a 7) ((s 10)).toNatClampNeg p))) := ab_other e21 (by omega) c16
    have c26 : h20[b+4]? = some (.inl (.int, 6001, .inl (upd (a 8) ((s 10)).toNatClampNeg v))) := ab_self e21 c17
    have c27 : h20[b+5]? = some (.inl (.boolean, 6001, .inl (a 9))) := ab_other e21 (by omega) c18
    have c28 : h20[b+6]? = some (.inl (.int, 42, .inl (a 12))) := ab_other e21 (by omega) c19
    refine ab_aload_n d_Lexer_note_42 rfl rfl rfl ?_
    refine ab_get (f := 9) d_Lexer_note_43 c22 rfl (by decide) (k1 111 rfl rfl) rfl ?_
    refine ab_aload_n d_Lexer_note_46 rfl rfl rfl ?_
    refine ab_get (f := 10) d_Lexer_note_47 c22 rfl (by decide) (k1 112 rfl rfl) rfl ?_
    refine ab_iload d_Lexer_note_50 rfl ?_
    refine ab_zast d_Lexer_note_52 tZ c27 (in_of (by decide) hc q1) ?_
    refine ab_gen (fun h29 e30 => ?_)
    have c31 : h29[b]? = some (.inr (1, [.ref (b + 1), .int (s 1), .int (s 2), .int (s 3), .int (s 4), .int (s 5), .ref (b + 2), .ref (b + 3), .ref (b + 4), .ref (b + 5), .int (s 10), .int (s 11), .ref (b + 6)])) := ab_other e30 (by omega) c22
    have c32 : h29[b+1]? = some (.inl (.byte, 6000, .inl (a 0))) := ab_other e30 (by omega) c23
    have c33 : h29[b+2]? = some (.inl (.int, 6001, .inl (upd (a 6) ((s 10)).toNatClampNeg k))) := ab_other e30 (by omega) c24
    have c34 : h29[b+3]? = some (.inl (.int, 6001, .inl (upd (a 7) ((s 10)).toNatClampNeg p))) := ab_other e30 (by omega) c25
    have c35 : h29[b+4]? = some (.inl (.int, 6001, .inl (upd (a 8) ((s 10)).toNatClampNeg v))) := ab_other e30 (by omega) c26
    have c36 : h29[b+5]? = some (.inl (.boolean, 6001, .inl (upd (a 9) ((s 10)).toNatClampNeg (vp_nar .boolean t)))) := ab_self e30 c27
    have c37 : h29[b+6]? = some (.inl (.int, 42, .inl (a 12))) := ab_other e30 (by omega) c28
    refine ab_aload_n d_Lexer_note_53 rfl rfl rfl ?_
    refine ab_dup d_Lexer_note_54 rfl ?_
    refine ab_get (f := 10) d_Lexer_note_55 c31 rfl (by decide) (k1 112 rfl rfl) rfl ?_
    refine ab_iconst (v := 1) d_Lexer_note_58 (by decide) ?_
    refine ab_iadd d_Lexer_note_59 ?_
    refine ab_put (f := 10) d_Lexer_note_60 c31 rfl (by decide) (k1 112 rfl rfl) rfl rfl (fun _ => rfl) (fun _ => rfl) (Nat.le_of_ble_eq_true rfl) ?_
    show ab_V _ _ _ _ _ _ _ 63 [some (.ref b), some (.int k), some (.int p), some (.int v), some (.int t)] [] (h29.set b (.inr (1, [.ref (b + 1), .int (s 1), .int (s 2), .int (s 3), .int (s 4), .int (s 5), .ref (b + 2), .ref (b + 3), .ref (b + 4), .ref (b + 5), .int ((s 10) + 1), .int (s 11), .ref (b + 6)])))
    refine ab_gen (fun h38 e39 => ?_)
    have c40 : h38[b]? = some (.inr (1, [.ref (b + 1), .int (s 1), .int (s 2), .int (s 3), .int (s 4), .int (s 5), .ref (b + 2), .ref (b + 3), .ref (b + 4), .ref (b + 5), .int ((s 10) + 1), .int (s 11), .ref (b + 6)])) := ab_self e39 c31
    have c41 : h38[b+1]? = some (.inl (.byte, 6000, .inl (a 0))) := ab_other e39 (by omega) c32
    have c42 : h38[b+2]? = some (.inl (.int, 6001, .inl (upd (a 6) ((s 10)).toNatClampNeg k))) := ab_other e39 (by omega) c33
    have c43 : h38[b+3]? = some (.inl (.int, 6001, .inl (upd (a 7) ((s 10)).toNatClampNeg p))) := ab_other e39 (by omega) c34
    have c44 : h38[b+4]? = some (.inl (.int, 6001, .inl (upd (a 8) ((s 10)).toNatClampNeg v))) := ab_other e39 (by omega) c35
    have c45 : h38[b+5]? = some (.inl (.boolean, 6001, .inl (upd (a 9) ((s 10)).toNatClampNeg (vp_nar .boolean t)))) := ab_other e39 (by omega) c36
    have c46 : h38[b+6]? = some (.inl (.int, 42, .inl (a 12))) := ab_other e39 (by omega) c37
    exact ab_vret d_Lexer_note_63 rfl (Nat.le_refl _) (Nat.le_refl _) (by rw [sp_note_s, sp_note_a, if_pos (by assumption), if_pos (by assumption)]; exact ⟨rfl, ⟨c40, c41, c42, c43, c44, c45, c46⟩, (ab_fr_set (ab_fr_set (ab_fr_set (ab_fr_set (ab_fr_set (ab_fr_rf _ _) e3 (by first | (show _ ∧ _; omega) | (show _ ∨ _; omega) | (show _ = _; omega) | (show _ ≤ _; omega))) e12 (by first | (show _ ∧ _; omega) | (show _ ∨ _; omega) | (show _ = _; omega) | (show _ ≤ _; omega))) e21 (by first | (show _ ∧ _; omega) | (show _ ∨ _; omega) | (show _ = _; omega) | (show _ ≤ _; omega))) e30 (by first | (show _ ∧ _; omega) | (show _ ∨ _; omega) | (show _ = _; omega) | (show _ ≤ _; omega))) e39 (by first | (show _ ∧ _; omega) | (show _ ∨ _; omega) | (show _ = _; omega) | (show _ ≤ _; omega)))⟩)
def sp_adv (s : Nat → Int32) (a : Nat → Nat → Int32) : Nat → Int32 := if ¬ s 10 ≤ s 11 + 1 then upd (upd (upd s 11 (s 11 + 1)) 2 (a 6 (s 11 + 1).toNatClampNeg)) 3 (a 7 (s 11 + 1).toNatClampNeg) else s
set_option maxRecDepth 20000 in
set_option maxHeartbeats 2000000 in
theorem c_Lexer_advance {h : List ab_E} {b : Nat} {s : Nat → Int32} {a : Nat → Nat → Int32}  (hl : at_Lexer h b s a) (hat : ¬ s 10 ≤ s 11 + 1 → vp_in (s 11 + 1) 6001) : ab_M y_Lexer_advance { frames := 0, cells := 0, slots := 0, locals := 0 } [.ref b] h (ab_A none (fun h1 => at_Lexer h1 b (sp_adv s a) (a) ∧ ab_fr (in_Lexer b) h h1)) := by
  have hl0 := hl; obtain ⟨go, g0, g6, g7, g8, g9, g12⟩ := hl
  refine ab_of2 (lv := [some (.ref b)]) 0 rfl rfl (Nat.le_of_ble_eq_true rfl) ?_
  refine ab_aload_n d_Lexer_advance_0 rfl rfl rfl ?_
  refine ab_get (f := 11) d_Lexer_advance_1 go rfl (by decide) (k1 113 rfl rfl) rfl ?_
  refine ab_iconst (v := 1) d_Lexer_advance_4 (by decide) ?_
  refine ab_iadd d_Lexer_advance_5 ?_
  refine ab_aload_n d_Lexer_advance_6 rfl rfl rfl ?_
  refine ab_get (f := 10) d_Lexer_advance_7 go rfl (by decide) (k1 112 rfl rfl) rfl ?_
  refine ab_icmp_ge (tgt := 49) d_Lexer_advance_10 (by decide) (fun q1 => ?_) (fun q1 => ?_)
  · exact ab_vret d_Lexer_advance_49 rfl (Nat.le_refl _) (Nat.le_refl _) (by rw [sp_adv, if_neg (fun z => z (by assumption))]; exact ⟨rfl, ⟨go, g0, g6, g7, g8, g9, g12⟩, (ab_fr_rf _ _)⟩)
  · refine ab_aload_n d_Lexer_advance_13 rfl rfl rfl ?_
    refine ab_dup d_Lexer_advance_14 rfl ?_
    refine ab_get (f := 11) d_Lexer_advance_15 go rfl (by decide) (k1 113 rfl rfl) rfl ?_
    refine ab_iconst (v := 1) d_Lexer_advance_18 (by decide) ?_
    refine ab_iadd d_Lexer_advance_19 ?_
    refine ab_put (f := 11) d_Lexer_advance_20 go rfl (by decide) (k1 113 rfl rfl) rfl rfl (fun _ => rfl) (fun _ => rfl) (Nat.le_of_ble_eq_true rfl) ?_
    show ab_V _ _ _ _ _ _ _ 23 [some (.ref b)] [] (h.set b (.inr (1, [.ref (b + 1), .int (s 1), .int (s 2), .int (s 3), .int (s 4), .int (s 5), .ref (b + 2), .ref (b + 3), .ref (b + 4), .ref (b + 5), .int (s 10), .int ((s 11) + 1), .ref (b + 6)])))
    refine ab_gen (fun h2 e3 => ?_)
    have c4 : h2[b]? = some (.inr (1, [.ref (b + 1), .int (s 1), .int (s 2), .int (s 3), .int (s 4), .int (s 5), .ref (b + 2), .ref (b + 3), .ref (b + 4), .ref (b + 5), .int (s 10), .int ((s 11) + 1), .ref (b + 6)])) := ab_self e3 go
    have c5 : h2[b+1]? = some (.inl (.byte, 6000, .inl (a 0))) := ab_other e3 (by omega) g0
    have c6 : h2[b+2]? = some (.inl (.int, 6001, .inl (a 6))) := ab_other e3 (by omega) g6
    have c7 : h2[b+3]? = some (.inl (.int, 6001, .inl (a 7))) := ab_other e3 (by omega) g7
    have c8 : h2[b+4]? = some (.inl (.int, 6001, .inl (a 8))) := ab_other e3 (by omega) g8
    have c9 : h2[b+5]? = some (.inl (.boolean, 6001, .inl (a 9))) := ab_other e3 (by omega) g9
    have c10 : h2[b+6]? = some (.inl (.int, 42, .inl (a 12))) := ab_other e3 (by omega) g12
    refine ab_aload_n d_Lexer_advance_23 rfl rfl rfl ?_
    refine ab_aload_n d_Lexer_advance_24 rfl rfl rfl ?_
    refine ab_get (f := 6) d_Lexer_advance_25 c4 rfl (by decide) (k1 108 rfl rfl) rfl ?_
    refine ab_aload_n d_Lexer_advance_28 rfl rfl rfl ?_
    refine ab_get (f := 11) d_Lexer_advance_29 c4 rfl (by decide) (k1 113 rfl rfl) rfl ?_
    refine ab_iald d_Lexer_advance_32 tI c6 (hat q1) ?_
    refine ab_topi (fun x11 ex11 => ?_)
    refine ab_put (f := 2) d_Lexer_advance_33 c4 rfl (by decide) (k1 100 rfl rfl) rfl rfl (fun _ => rfl) (fun _ => rfl) (Nat.le_of_ble_eq_true rfl) ?_
    show ab_V _ _ _ _ _ _ _ 36 [some (.ref b)] [] (h2.set b (.inr (1, [.ref (b + 1), .int (s 1), .int x11, .int (s 3), .int (s 4), .int (s 5), .ref (b + 2), .ref (b + 3), .ref (b + 4), .ref (b + 5), .int (s 10), .int ((s 11) + 1), .ref (b + 6)])))
    refine ab_gen (fun h12 e13 => ?_)
    have c14 : h12[b]? = some (.inr (1, [.ref (b + 1), .int (s 1), .int x11, .int (s 3), .int (s 4), .int (s 5), .ref (b + 2), .ref (b + 3), .ref (b + 4), .ref (b + 5), .int (s 10), .int ((s 11) + 1), .ref (b + 6)])) := ab_self e13 c4
    have c15 : h12[b+1]? = some (.inl (.byte, 6000, .inl (a 0))) := ab_other e13 (by omega) c5
    have c16 : h12[b+2]? = some (.inl (.int, 6001, .inl (a 6))) := ab_other e13 (by omega) c6
    have c17 : h12[b+3]? = some (.inl (.int, 6001, .inl (a 7))) := ab_other e13 (by omega) c7
    have c18 : h12[b+4]? = some (.inl (.int, 6001, .inl (a 8))) := ab_other e13 (by omega) c8
    have c19 : h12[b+5]? = some (.inl (.boolean, 6001, .inl (a 9))) := ab_other e13 (by omega) c9
    have c20 : h12[b+6]? = some (.inl (.int, 42, .inl (a 12))) := ab_other e13 (by omega) c10
    refine ab_aload_n d_Lexer_advance_36 rfl rfl rfl ?_
    refine ab_aload_n d_Lexer_advance_37 rfl rfl rfl ?_
    refine ab_get (f := 7) d_Lexer_advance_38 c14 rfl (by decide) (k1 109 rfl rfl) rfl ?_
    refine ab_aload_n d_Lexer_advance_41 rfl rfl rfl ?_
    refine ab_get (f := 11) d_Lexer_advance_42 c14 rfl (by decide) (k1 113 rfl rfl) rfl ?_
    refine ab_iald d_Lexer_advance_45 tI c17 (hat q1) ?_
    refine ab_topi (fun x21 ex21 => ?_)
    refine ab_put (f := 3) d_Lexer_advance_46 c14 rfl (by decide) (k1 102 rfl rfl) rfl rfl (fun _ => rfl) (fun _ => rfl) (Nat.le_of_ble_eq_true rfl) ?_
    show ab_V _ _ _ _ _ _ _ 49 [some (.ref b)] [] (h12.set b (.inr (1, [.ref (b + 1), .int (s 1), .int x11, .int x21, .int (s 4), .int (s 5), .ref (b + 2), .ref (b + 3), .ref (b + 4), .ref (b + 5), .int (s 10), .int ((s 11) + 1), .ref (b + 6)])))
    refine ab_gen (fun h22 e23 => ?_)
    have c24 : h22[b]? = some (.inr (1, [.ref (b + 1), .int (s 1), .int x11, .int x21, .int (s 4), .int (s 5), .ref (b + 2), .ref (b + 3), .ref (b + 4), .ref (b + 5), .int (s 10), .int ((s 11) + 1), .ref (b + 6)])) := ab_self e23 c14
    have c25 : h22[b+1]? = some (.inl (.byte, 6000, .inl (a 0))) := ab_other e23 (by omega) c15
    have c26 : h22[b+2]? = some (.inl (.int, 6001, .inl (a 6))) := ab_other e23 (by omega) c16
    have c27 : h22[b+3]? = some (.inl (.int, 6001, .inl (a 7))) := ab_other e23 (by omega) c17
    have c28 : h22[b+4]? = some (.inl (.int, 6001, .inl (a 8))) := ab_other e23 (by omega) c18
    have c29 : h22[b+5]? = some (.inl (.boolean, 6001, .inl (a 9))) := ab_other e23 (by omega) c19
    have c30 : h22[b+6]? = some (.inl (.int, 42, .inl (a 12))) := ab_other e23 (by omega) c20
    exact ab_vret d_Lexer_advance_49 rfl (Nat.le_refl _) (Nat.le_refl _) (by rw [sp_adv, if_pos (by assumption)]; subst ex11; subst ex21; exact ⟨rfl, ⟨c24, c25, c26, c27, c28, c29, c30⟩, (ab_fr_set (ab_fr_set (ab_fr_set (ab_fr_rf _ _) e3 (by first | (show _ ∧ _; omega) | (show _ ∨ _; omega) | (show _ = _; omega) | (show _ ≤ _; omega))) e13 (by first | (show _ ∧ _; omega) | (show _ ∨ _; omega) | (show _ = _; omega) | (show _ ≤ _; omega))) e23 (by first | (show _ ∧ _; omega) | (show _ ∨ _; omega) | (show _ = _; omega) | (show _ ≤ _; omega)))⟩)
theorem ab_thrown {h h1 : List ab_E} {b : Nat} {s : Nat → Int32} {a : Nat → Nat → Int32} {c : ab_E} (hlen : h1.length = h.length) (hl : at_Lexer h1 b s a) (hf : ab_fr (in_Lexer b) h h1) : at_Lexer (h1 ++ [c]) b s a ∧ (h1 ++ [c]).length = h.length + 1 ∧ (h1 ++ [c])[h.length]? = some c ∧ ab_fr (in_Lexer b) h (h1 ++ [c]) := by
  obtain ⟨e1, e2, e3⟩ := ab_app (c := c) hlen
  have key : ∀ (i : Nat) (d : ab_E), h1[i]? = some d → (h1 ++ [c])[i]? = some d := fun i d q => (e3 i (by rw [← hlen]; exact (List.getElem?_eq_some_iff.mp q).1)).trans q
  obtain ⟨g0, g1, g2, g3, g4, g5, g6⟩ := hl
  refine ⟨⟨key _ _ g0, key _ _ g1, key _ _ g2, key _ _ g3, key _ _ g4, key _ _ g5, key _ _ g6⟩, e1, e2, ⟨by rw [e1]; omega, fun i hi hn => (e3 i hi).trans (hf.2 i hi hn)⟩⟩
set_option maxRecDepth 20000 in
set_option maxHeartbeats 2000000 in
theorem c_Lexer_refuse {h : List ab_E} {b : Nat} {s : Nat → Int32} {a : Nat → Nat → Int32} {k p : Int32} (hl : at_Lexer h b s a)  : ab_M y_Lexer_refuse { frames := 6, cells := 1, slots := 6, locals := 120 } [.ref b, .int k, .int p] h (fun o h1 => o = .threw h.length ∧ at_Lexer h1 b (upd (upd s 4 k) 5 p) a ∧ h1.length = h.length + 1 ∧ h1[h.length]? = some (.inr (17, [])) ∧ ab_fr (in_Lexer b) h h1) := by
  have hl0 := hl; obtain ⟨go, g0, g6, g7, g8, g9, g12⟩ := hl
  refine ab_of2 (lv := [some (.ref b), some (.int k), some (.int p)]) 0 rfl rfl (Nat.le_of_ble_eq_true rfl) ?_
  refine ab_aload_n d_Lexer_refuse_0 rfl rfl rfl ?_
  refine ab_iload_n d_Lexer_refuse_1 rfl rfl ?_
  refine ab_put (f := 4) d_Lexer_refuse_2 go rfl (by decide) (k1 104 rfl rfl) rfl rfl (fun _ => rfl) (fun _ => rfl) (Nat.le_of_ble_eq_true rfl) ?_
  show ab_V _ _ _ _ _ _ _ 5 [some (.ref b), some (.int k), some (.int p)] [] (h.set b (.inr (1, [.ref (b + 1), .int (s 1), .int (s 2), .int (s 3), .int k, .int (s 5), .ref (b + 2), .ref (b + 3), .ref (b + 4), .ref (b + 5), .int (s 10), .int (s 11), .ref (b + 6)])))
  refine ab_gen (fun h1 e2 => ?_)
  have c3 : h1[b]? = some (.inr (1, [.ref (b + 1), .int (s 1), .int (s 2), .int (s 3), .int k, .int (s 5), .ref (b + 2), .ref (b + 3), .ref (b + 4), .ref (b + 5), .int (s 10), .int (s 11), .ref (b + 6)])) := ab_self e2 go
  have c4 : h1[b+1]? = some (.inl (.byte, 6000, .inl (a 0))) := ab_other e2 (by omega) g0
  have c5 : h1[b+2]? = some (.inl (.int, 6001, .inl (a 6))) := ab_other e2 (by omega) g6
  have c6 : h1[b+3]? = some (.inl (.int, 6001, .inl (a 7))) := ab_other e2 (by omega) g7
  have c7 : h1[b+4]? = some (.inl (.int, 6001, .inl (a 8))) := ab_other e2 (by omega) g8
  have c8 : h1[b+5]? = some (.inl (.boolean, 6001, .inl (a 9))) := ab_other e2 (by omega) g9
  have c9 : h1[b+6]? = some (.inl (.int, 42, .inl (a 12))) := ab_other e2 (by omega) g12
  refine ab_aload_n d_Lexer_refuse_5 rfl rfl rfl ?_
  refine ab_iload_n d_Lexer_refuse_6 rfl rfl ?_
  refine ab_put (f := 5) d_Lexer_refuse_7 c3 rfl (by decide) (k1 106 rfl rfl) rfl rfl (fun _ => rfl) (fun _ => rfl) (Nat.le_of_ble_eq_true rfl) ?_
  show ab_V _ _ _ _ _ _ _ 10 [some (.ref b), some (.int k), some (.int p)] [] (h1.set b (.inr (1, [.ref (b + 1), .int (s 1), .int (s 2), .int (s 3), .int k, .int p, .ref (b + 2), .ref (b + 3), .ref (b + 4), .ref (b + 5), .int (s 10), .int (s 11), .ref (b + 6)])))
  refine ab_gen (fun h10 e11 => ?_)
  have c12 : h10[b]? = some (.inr (1, [.ref (b + 1), .int (s 1), .int (s 2), .int (s 3), .int k, .int p, .ref (b + 2), .ref (b + 3), .ref (b + 4), .ref (b + 5), .int (s 10), .int (s 11), .ref (b + 6)])) := ab_self e11 c3
  have c13 : h10[b+1]? = some (.inl (.byte, 6000, .inl (a 0))) := ab_other e11 (by omega) c4
  have c14 : h10[b+2]? = some (.inl (.int, 6001, .inl (a 6))) := ab_other e11 (by omega) c5
  have c15 : h10[b+3]? = some (.inl (.int, 6001, .inl (a 7))) := ab_other e11 (by omega) c6
  have c16 : h10[b+4]? = some (.inl (.int, 6001, .inl (a 8))) := ab_other e11 (by omega) c7
  have c17 : h10[b+5]? = some (.inl (.boolean, 6001, .inl (a 9))) := ab_other e11 (by omega) c8
  have c18 : h10[b+6]? = some (.inl (.int, 42, .inl (a 12))) := ab_other e11 (by omega) c9
  have hlen : h10.length = h.length := by rw [e11, List.length_set]; rw [e2, List.length_set]
  exact ab_throw (ci := 17) (names := ["java/lang/RuntimeException", "java/lang/Exception"]) (k0 := 3) d_Lexer_refuse_10 d_Lexer_refuse_13 d_Lexer_refuse_14 d_Lexer_refuse_16 d_Lexer_refuse_19 rfl (k4 101 rfl rfl) (k4 102 rfl rfl) (k1 27 rfl rfl) (by decide +kernel) (by decide +kernel) ow_Lexer_131 (List.mem_of_getElem? (i := 3) rfl) rfl rfl rfl rfl (by decide) (by decide) (by decide) (by decide) (by decide) (Nat.le_of_ble_eq_true rfl) ⟨by rw [hlen], ab_thrown hlen ⟨c12, c13, c14, c15, c16, c17, c18⟩ (ab_fr_set (ab_fr_set (ab_fr_rf _ _) e2 (by first | (show _ ∧ _; omega) | (show _ ∨ _; omega) | (show _ = _; omega) | (show _ ≤ _; omega))) e11 (by first | (show _ ∧ _; omega) | (show _ ∨ _; omega) | (show _ = _; omega) | (show _ ≤ _; omega)))⟩
