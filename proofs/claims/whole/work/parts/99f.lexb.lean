/-- all tokens from i on: the lexer's state behind them, and whether none was bad -/
def lx_go (bf : Int32 → Int32) (T : Nat) : Nat → Nat → (Nat → Int32) → (Nat → Nat → Int32) → (Nat → Int32) × (Nat → Nat → Int32) × Int32
  | 0, _, s, a => (s, a, 1)
  | n + 1, i, s, a => if T ≤ i then (s, a, 1) else
      if (lx_tok bf T i).2.1 = 1 then (sp_note_s s, sp_note_a s a (lx_tok bf T i).2.1 (nI i) (lx_tok bf T i).2.2.1 (lx_tok bf T i).2.2.2, 0)
      else lx_go bf T n (lx_bbn bf T (lx_tok bf T i).1) (sp_note_s s) (sp_note_a s a (lx_tok bf T i).2.1 (nI i) (lx_tok bf T i).2.2.1 (lx_tok bf T i).2.2.2)
termination_by n => n
set_option maxRecDepth 20000 in
set_option maxHeartbeats 2000000 in
theorem l_go {b : Nat} {bf : Int32 → Int32} {T : Nat} {Po : Outcome → List ab_E → Prop} {mc ms cells slots : Nat} (hT2 : T ≤ 6000) (hcl : cells ≤ ({ frames := 7, cells := 0, slots := 0, locals := 320 } : Room).cells) (hsl : slots ≤ ({ frames := 7, cells := 0, slots := 0, locals := 320 } : Room).slots) : ∀ (n i tn c : Nat) (s : Nat → Int32) (a : Nat → Nat → Int32) (h : List ab_E), T ≤ i + n → i ≤ T → tn ≤ i → c ≤ i → s 1 = nI T → s 10 = nI c → (∀ j, lx_byte s a j = bf j) → a 12 = kept0 → at_Lexer h b s a → (∀ (h1 : List ab_E) (x y : Int32), at_Lexer h1 b (lx_go bf T n i s a).1 (lx_go bf T n i s a).2.1 → ab_fr (in_Lexer b) h h1 → ab_V y_Lexer_begin { frames := 7, cells := 0, slots := 0, locals := 320 } Po mc ms cells slots 88 [some (.ref b), some (.int (lx_go bf T n i s a).2.2), some (.int x), some (.int y)] [] h1) → ab_V y_Lexer_begin { frames := 7, cells := 0, slots := 0, locals := 320 } Po mc ms cells slots 25 [some (.ref b), some (.int 1), some (.int (nI i)), some (.int (nI tn))] [] h := by
  intro n
  induction n with
  | zero =>
    intro i tn c s a h hif hiT htn hci hT hc0 hb h12 hl hk
    have hl0 := hl; obtain ⟨go, g0, g6, g7, g8, g9, g12⟩ := hl
    replace go : h[b]? = some (.inr (1, [.ref (b + 1), .int (nI T), .int (s 2), .int (s 3), .int (s 4), .int (s 5), .ref (b + 2), .ref (b + 3), .ref (b + 4), .ref (b + 5), .int (s 10), .int (s 11), .ref (b + 6)])) := (by rw [← hT]; exact go)
    refine ab_iload_n d_Lexer_begin_25 rfl rfl ?_
    refine ab_sipush (v := 6000) d_Lexer_begin_26 (by decide) ?_
    refine ab_icmp_ge (tgt := 88) d_Lexer_begin_29 (by decide) (fun q1 => ?_) (fun q1 => ?_)
    · first | exact absurd ((nI_leI (a := 6000) (by omega) (by omega)).mp q1) (by omega) | (have hTi : T ≤ i := (by omega); have heq : lx_go bf T 0 i s a = (s, a, 1) := (by rw [lx_go]); rw [heq] at hk; exact hk h _ _ hl0 (ab_fr_rf _ _))
    · refine ab_iload_n d_Lexer_begin_32 rfl rfl ?_
      refine ab_if_eq (tgt := 88) d_Lexer_begin_33 (by decide) (fun q2 => by exact absurd q2 (by decide)) (fun q2 => ?_)
      refine ab_iload_n d_Lexer_begin_36 rfl rfl ?_
      refine ab_aload_n d_Lexer_begin_37 rfl rfl rfl ?_
      refine ab_get (f := 1) d_Lexer_begin_38 go rfl (by decide) (k1 95 rfl rfl) rfl ?_
      refine ab_icmp_ge (tgt := 88) d_Lexer_begin_41 (by decide) (fun q3 => ?_) (fun q3 => ?_)
      · have hTi : T ≤ i := (nI_leI (by omega) (by omega)).mp q3
        have heq : lx_go bf T 0 i s a = (s, a, 1) := by rw [lx_go]
        rw [heq] at hk
        exact hk h _ _ hl0 (ab_fr_rf _ _)
      · exact absurd (nI_le (a := T) (b := i) (by omega) (by omega)) q3
  | succ n ih =>
    intro i tn c s a h hif hiT htn hci hT hc0 hb h12 hl hk
    have hl0 := hl; obtain ⟨go, g0, g6, g7, g8, g9, g12⟩ := hl
    replace go : h[b]? = some (.inr (1, [.ref (b + 1), .int (nI T), .int (s 2), .int (s 3), .int (s 4), .int (s 5), .ref (b + 2), .ref (b + 3), .ref (b + 4), .ref (b + 5), .int (s 10), .int (s 11), .ref (b + 6)])) := (by rw [← hT]; exact go)
    refine ab_iload_n d_Lexer_begin_25 rfl rfl ?_
    refine ab_sipush (v := 6000) d_Lexer_begin_26 (by decide) ?_
    refine ab_icmp_ge (tgt := 88) d_Lexer_begin_29 (by decide) (fun q1 => ?_) (fun q1 => ?_)
    · first | exact absurd ((nI_leI (a := 6000) (by omega) (by omega)).mp q1) (by omega) | (have hTi : T ≤ i := (by have z := (nI_leI (a := 6000) (by omega) (by omega)).mp q1; omega); have heq : lx_go bf T (n + 1) i s a = (s, a, 1) := (by rw [lx_go, if_pos hTi]); rw [heq] at hk; exact hk h _ _ hl0 (ab_fr_rf _ _))
    · refine ab_iload_n d_Lexer_begin_32 rfl rfl ?_
      refine ab_if_eq (tgt := 88) d_Lexer_begin_33 (by decide) (fun q2 => by exact absurd q2 (by decide)) (fun q2 => ?_)
      refine ab_iload_n d_Lexer_begin_36 rfl rfl ?_
      refine ab_aload_n d_Lexer_begin_37 rfl rfl rfl ?_
      refine ab_get (f := 1) d_Lexer_begin_38 go rfl (by decide) (k1 95 rfl rfl) rfl ?_
      refine ab_icmp_ge (tgt := 88) d_Lexer_begin_41 (by decide) (fun q3 => ?_) (fun q3 => ?_)
      · have hTi : T ≤ i := (nI_leI (by omega) (by omega)).mp q3
        have heq : lx_go bf T (n + 1) i s a = (s, a, 1) := by rw [lx_go]; rw [if_pos hTi]
        rw [heq] at hk
        exact hk h _ _ hl0 (ab_fr_rf _ _)
      · have hlt : i < T := Nat.lt_of_not_le (fun z => q3 (nI_le z (by omega)))
        refine ab_aload_n d_Lexer_begin_44 rfl rfl rfl ?_
        refine ab_aload_n d_Lexer_begin_45 rfl rfl rfl ?_
        refine ab_iload_n d_Lexer_begin_46 rfl rfl ?_
        refine ab_callV_a (As := [.int (nI i)]) (rest := [.ref b]) d_Lexer_begin_47 (c_Lexer_behindToken hl0 hT hT2 hb h12 (by omega) (by rw [hc0]; exact nI_pos (by omega))) (ab_mkC s_Lexer_behindToken (Nat.le_of_ble_eq_true rfl) (Nat.le_of_ble_eq_true rfl) (by first | exact hcl | (show _ ≤ _; omega)) (by first | exact hsl | (show _ ≤ _; omega))) (k3 230 rfl rfl) i_Lexer_behindToken v_Lexer_behindToken go rfl rfl (Nat.le_of_ble_eq_true rfl) (fun h4 q5 => ?_)
        obtain ⟨hl1, fr1⟩ := q5
        obtain ⟨s1, es1⟩ : ∃ z, z = sp_note_s s := ⟨_, rfl⟩
        obtain ⟨a1, ea1⟩ : ∃ z, z = sp_note_a s a (lx_tok bf T i).2.1 (nI i) (lx_tok bf T i).2.2.1 (lx_tok bf T i).2.2.2 := ⟨_, rfl⟩
        rw [← es1, ← ea1] at hl1
        have hT1 : s1 1 = nI T := by rw [es1, note_s1]; exact hT
        have hc1 : s1 10 = nI (c + 1) := by rw [es1]; exact note_s10 hc0 (by omega)
        have hb1 : ∀ j, lx_byte s1 a1 j = bf j := fun j => by rw [es1, ea1, note_bf]; exact hb j
        have h121 : a1 12 = kept0 := by rw [ea1, note_a (by decide)]; exact h12
        have h61 : a1 6 c = (lx_tok bf T i).2.1 := by rw [ea1]; exact note_a6 hc0 (by omega)
        have hl1s := hl1
        obtain ⟨ko, k0, k6, k7, k8, k9, k12⟩ := hl1
        replace ko : h4[b]? = some (.inr (1, [.ref (b + 1), .int (nI T), .int (s1 2), .int (s1 3), .int (s1 4), .int (s1 5), .ref (b + 2), .ref (b + 3), .ref (b + 4), .ref (b + 5), .int (nI (c + 1)), .int (s1 11), .ref (b + 6)])) := (by rw [← hT1, ← hc1]; exact ko)
        have hadv := tok_adv (bf := bf) (f := i) (by omega) hT2 (fun j hj q => digit_lt hT hb hj q)
        refine ab_callV_a (As := [.int (nI (lx_tok bf T i).1)]) (rest := []) d_Lexer_begin_50 (c_Lexer_behindBlanks hl1s hT1 hT2 hb1 (by omega)) (ab_mkC s_Lexer_behindBlanks (Nat.le_of_ble_eq_true rfl) (Nat.le_of_ble_eq_true rfl) (by first | exact hcl | (show _ ≤ _; omega)) (by first | exact hsl | (show _ ≤ _; omega))) (k3 222 rfl rfl) i_Lexer_behindBlanks v_Lexer_behindBlanks ko rfl rfl (Nat.le_of_ble_eq_true rfl) (fun h6 q7 => ?_)
        subst q7
        have hnx : lx_bb bf T (lx_tok bf T i).1 = nI (lx_bbn bf T (lx_tok bf T i).1) ∧ i + 1 ≤ lx_bbn bf T (lx_tok bf T i).1 ∧ lx_bbn bf T (lx_tok bf T i).1 ≤ T := by
          by_cases hq : (lx_tok bf T i).1 ≤ T
          · have z := bbn_eq (bf := bf) (by omega) hq; exact ⟨z.1, by omega, z.2.2⟩
          · have z := bbn_out (bf := bf) (T := T) (f := (lx_tok bf T i).1) (by omega) (by omega); rw [z.2]; exact ⟨z.1, by omega, Nat.le_refl _⟩
        refine ab_topi (fun x8 ex8 => ?_)
        obtain rfl : x8 = nI (lx_bbn bf T (lx_tok bf T i).1) := ex8.trans hnx.1
        clear ex8
        refine ab_topi (fun x9 ex9 => ?_)
        refine ab_istore_n (lv' := [some (.ref b), some (.int 1), some (.int x9), some (.int (nI tn))]) d_Lexer_begin_53 rfl (by decide) rfl ?_
        refine ab_aload_n d_Lexer_begin_54 rfl rfl rfl ?_
        refine ab_get (f := 10) d_Lexer_begin_55 ko rfl (by decide) (k1 112 rfl rfl) rfl ?_
        refine ab_if_le (tgt := 80) d_Lexer_begin_58 (by decide) (fun q10 => ?_) (fun q10 => ?_)
        · exact absurd ((nI_leI (b := 0) (by omega) (by omega)).mp q10) (by omega)
        · refine ab_aload_n d_Lexer_begin_61 rfl rfl rfl ?_
          refine ab_get (f := 6) d_Lexer_begin_62 ko rfl (by decide) (k1 108 rfl rfl) rfl ?_
          refine ab_aload_n d_Lexer_begin_65 rfl rfl rfl ?_
          refine ab_get (f := 10) d_Lexer_begin_66 ko rfl (by decide) (k1 112 rfl rfl) rfl ?_
          refine ab_iconst (v := 1) d_Lexer_begin_69 (by decide) ?_
          refine ab_isub d_Lexer_begin_70 ?_
          refine ab_topi (fun x11 ex11 => ?_)
          obtain rfl : x11 = nI c := ex11.trans (by rw [show (1 : Int32) = nI 1 from rfl, nI_sub1 (by omega)]; rfl)
          clear ex11
          refine ab_iald d_Lexer_begin_71 tI k6 (vp_in_nI (by omega) (by decide)) ?_
          refine ab_topi (fun x12 ex12 => ?_)
          obtain rfl : x12 = (lx_tok bf T i).2.1 := ex12.trans (by rw [nI_clamp (by omega)]; exact h61)
          clear ex12
          refine ab_iconst (v := 1) d_Lexer_begin_72 (by decide) ?_
          refine ab_icmp_eq (tgt := 80) d_Lexer_begin_73 (by decide) (fun q13 => ?_) (fun q13 => ?_)
          · refine ab_iconst (v := 0) d_Lexer_begin_80 (by decide) ?_
            refine ab_istore_n (lv' := [some (.ref b), some (.int 0), some (.int x9), some (.int (nI tn))]) d_Lexer_begin_81 rfl (by decide) rfl ?_
            obtain ⟨x14, ex14⟩ : ∃ q : Int32, q = nI tn + 1 := ⟨_, rfl⟩
            refine ab_iinc (v := x14) (lv' := [some (.ref b), some (.int 0), some (.int x9), some (.int x14)]) d_Lexer_begin_82 rfl (by rw [ex14]; rfl) (by decide) rfl ?_
            refine ab_goto (tgt := 25) d_Lexer_begin_85 (by decide) ?_
            subst ex9
            subst ex14
            rw [nI_1]
            refine ab_widen (cells' := cells) (slots' := slots) (by first | exact Nat.le_refl _ | (show _ ≤ _; omega)) (by first | exact Nat.le_refl _ | (show _ ≤ _; omega)) ?_
            have heq : lx_go bf T (n + 1) i s a = ((sp_note_s s), (sp_note_a s a (lx_tok bf T i).2.1 (nI i) (lx_tok bf T i).2.2.1 (lx_tok bf T i).2.2.2), 0) := by rw [lx_go, if_neg (by omega), if_pos q13]
            rw [heq, ← es1, ← ea1] at hk
            refine ab_iload_n d_Lexer_begin_25 rfl rfl ?_
            refine ab_sipush (v := 6000) d_Lexer_begin_26 (by decide) ?_
            refine ab_icmp_ge (tgt := 88) d_Lexer_begin_29 (by decide) (fun q15 => ?_) (fun q15 => ?_)
            · exact hk h4 _ _ hl1s fr1
            · refine ab_iload_n d_Lexer_begin_32 rfl rfl ?_
              refine ab_if_eq (tgt := 88) d_Lexer_begin_33 (by decide) (fun q16 => ?_) (fun q16 => by exact absurd (by decide) q16)
              exact hk h4 _ _ hl1s fr1
          · refine ab_iconst (v := 1) d_Lexer_begin_76 (by decide) ?_
            refine ab_goto (tgt := 81) d_Lexer_begin_77 (by decide) ?_
            refine ab_istore_n (lv' := [some (.ref b), some (.int 1), some (.int x9), some (.int (nI tn))]) d_Lexer_begin_81 rfl (by decide) rfl ?_
            obtain ⟨x17, ex17⟩ : ∃ q : Int32, q = nI tn + 1 := ⟨_, rfl⟩
            refine ab_iinc (v := x17) (lv' := [some (.ref b), some (.int 1), some (.int x9), some (.int x17)]) d_Lexer_begin_82 rfl (by rw [ex17]; rfl) (by decide) rfl ?_
            refine ab_goto (tgt := 25) d_Lexer_begin_85 (by decide) ?_
            subst ex9
            subst ex17
            rw [nI_1]
            refine ab_widen (cells' := cells) (slots' := slots) (by first | exact Nat.le_refl _ | (show _ ≤ _; omega)) (by first | exact Nat.le_refl _ | (show _ ≤ _; omega)) ?_
            have heq : lx_go bf T (n + 1) i s a = lx_go bf T n (lx_bbn bf T (lx_tok bf T i).1) (sp_note_s s) (sp_note_a s a (lx_tok bf T i).2.1 (nI i) (lx_tok bf T i).2.2.1 (lx_tok bf T i).2.2.2) := by rw [lx_go, if_neg (by omega), if_neg q13]
            rw [heq, ← es1, ← ea1] at hk
            exact ih (lx_bbn bf T (lx_tok bf T i).1) (tn + 1) (c + 1) s1 a1 h4 (by omega) hnx.2.2 (by omega) (by omega) hT1 hc1 hb1 h121 hl1s (fun h1 x y q1 q2 => hk h1 x y q1 (ab_fr_tr fr1 q2))
