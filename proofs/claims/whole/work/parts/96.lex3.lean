def lx_byte (s : Nat → Int32) (a : Nat → Nat → Int32) (i : Int32) : Int32 := if ¬ s 1 ≤ i then a 0 i.toNatClampNeg &&& 255 else 0
theorem c_bf {h : List ab_E} {b : Nat} {s : Nat → Int32} {a : Nat → Nat → Int32} {bf : Int32 → Int32} {i : Int32} {T : Nat} (hl : at_Lexer h b s a) (hi : ¬ i < 0) (hT : s 1 = nI T) (hT2 : T ≤ 6000) (hb : ∀ i, lx_byte s a i = bf i) : ab_M y_Lexer_byteAt { frames := 0, cells := 0, slots := 0, locals := 0 } [.ref b, .int i] h (ab_A (some (.int (bf i))) (fun h1 => h = h1)) := by
  rw [← hb]
  exact c_Lexer_byteAt hl hi hT hT2
theorem bf_out {s : Nat → Int32} {a : Nat → Nat → Int32} {bf : Int32 → Int32} {T i : Nat} (hT : s 1 = nI T) (hb : ∀ i, lx_byte s a i = bf i) (hi : i < 2 ^ 31) (h : T ≤ i) : bf (nI i) = 0 := by
  rw [← hb]
  unfold lx_byte
  rw [if_neg (fun q => q (by rw [hT]; exact nI_le h hi))]
def sp_bb  (bf : Int32 → Int32) (T : Nat) : Nat → Nat → Int32 → Int32 ⊕ (Nat × Int32)
  | 0, i, r => .inr (i, r)
  | n + 1, i, r => if (nI T) ≤ (nI i) then .inr (i, r) else if ¬ (bf (nI i)) = (35 : Int32) then if ¬ (bf (nI i)) = (10 : Int32) then if ¬ r = (0 : Int32) then sp_bb  bf T n (i + 1) r else if (bf (nI i)) = (9 : Int32) then sp_bb  bf T n (i + 1) r else if (bf (nI i)) = (13 : Int32) then sp_bb  bf T n (i + 1) r else if (bf (nI i)) = (32 : Int32) then sp_bb  bf T n (i + 1) r else .inl (nI i) else sp_bb  bf T n (i + 1) 0 else sp_bb  bf T n (i + 1) 1
termination_by n => n
theorem sp_bb_0  (bf : Int32 → Int32) (T : Nat) (i : Nat) (r : Int32) : sp_bb  bf T 0 i r = .inr (i, r) := by rw [sp_bb]
set_option maxRecDepth 20000 in
set_option maxHeartbeats 2000000 in
theorem l_bb {h : List ab_E} {b : Nat} {s : Nat → Int32} {a : Nat → Nat → Int32} {bf : Int32 → Int32} {T : Nat} {Po : Outcome → List ab_E → Prop} {mc ms cells slots : Nat} (hl : at_Lexer h b s a) {f : Int32} (hT : s 1 = nI T) (hT2 : T ≤ 6000) (hb : ∀ i, lx_byte s a i = bf i) (hcl : cells ≤ ({ frames := 1, cells := 0, slots := 0, locals := 40 } : Room).cells) (hsl : slots ≤ ({ frames := 1, cells := 0, slots := 0, locals := 40 } : Room).slots) : ∀ (n i : Nat) (r : Int32), T ≤ i + n → i ≤ T → (∀ rr, sp_bb  bf T n i r = .inl rr → cells ≤ mc → slots ≤ ms → Po (.returned (some (.int rr))) h) → (∀ ee : Nat × Int32, sp_bb  bf T n i r = .inr ee → ee.1 ≤ T → ab_V y_Lexer_behindBlanks { frames := 1, cells := 0, slots := 0, locals := 40 } Po mc ms cells slots 76 [some (.ref b), some (.int f), some (.int ee.2), some (.int (nI ee.1)), none] [] h) → (cells ≤ mc) → (slots ≤ ms) → ab_V y_Lexer_behindBlanks { frames := 1, cells := 0, slots := 0, locals := 40 } Po mc ms cells slots 4 [some (.ref b), some (.int f), some (.int r), some (.int (nI i)), none] [] h := by
  have hl0 := hl; obtain ⟨go, g0, g6, g7, g8, g9, g12⟩ := hl
  replace go : h[b]? = some (.inr (1, [.ref (b + 1), .int (nI T), .int (s 2), .int (s 3), .int (s 4), .int (s 5), .ref (b + 2), .ref (b + 3), .ref (b + 4), .ref (b + 5), .int (s 10), .int (s 11), .ref (b + 6)])) := (by rw [← hT]; exact go)
  intro n
  induction n with
  | zero =>
    intro i r hif hiT hr hk hmc hms
    refine ab_iload_n d_Lexer_behindBlanks_4 rfl rfl ?_
    refine ab_aload_n d_Lexer_behindBlanks_5 rfl rfl rfl ?_
    refine ab_get (f := 1) d_Lexer_behindBlanks_6 go rfl (by decide) (k1 95 rfl rfl) rfl ?_
    refine ab_icmp_ge (tgt := 76) d_Lexer_behindBlanks_9 (by decide) (fun q1 => ?_) (fun q1 => ?_)
    · have hiN : i = T := (by omega)
      exact hk (i, r) (sp_bb_0 ..) hiT
    · exact absurd (nI_le (a := T) (b := i) (by omega) (by omega)) q1
  | succ n ih =>
    intro i r hif hiT hr hk hmc hms
    refine ab_iload_n d_Lexer_behindBlanks_4 rfl rfl ?_
    refine ab_aload_n d_Lexer_behindBlanks_5 rfl rfl rfl ?_
    refine ab_get (f := 1) d_Lexer_behindBlanks_6 go rfl (by decide) (k1 95 rfl rfl) rfl ?_
    refine ab_icmp_ge (tgt := 76) d_Lexer_behindBlanks_9 (by decide) (fun q1 => ?_) (fun q1 => ?_)
    · have heq : sp_bb  bf T (n + 1) i r = .inr (i, r) := by rw [sp_bb]; rw [if_pos q1]; try rfl
      refine ab_widen (cells' := cells) (slots' := slots) (by first | exact Nat.le_refl _ | (show _ ≤ _; omega)) (by first | exact Nat.le_refl _ | (show _ ≤ _; omega)) ?_
      exact hk (i, r) heq (by first | omega | (show _ ≤ _; omega))
    · have hlt : i < T := Nat.lt_of_not_le (fun z => q1 (by first | exact nI_le z (by omega) | (rw [hT]; exact nI_le z (by omega))))
      refine ab_aload_n d_Lexer_behindBlanks_12 rfl rfl rfl ?_
      refine ab_iload_n d_Lexer_behindBlanks_13 rfl rfl ?_
      refine ab_callV_a (As := [.int (nI i)]) (rest := []) d_Lexer_behindBlanks_14 (c_bf hl0 (nI_pos (by omega)) hT hT2 hb) (ab_mkC s_Lexer_byteAt (Nat.le_of_ble_eq_true rfl) (Nat.le_of_ble_eq_true rfl) (by first | exact hcl | (show _ ≤ _; omega)) (by first | exact hsl | (show _ ≤ _; omega))) (k3 226 rfl rfl) i_Lexer_byteAt v_Lexer_byteAt go rfl rfl (Nat.le_of_ble_eq_true rfl) (fun h3 q2 => ?_)
      subst q2
      refine ab_istore (lv' := [some (.ref b), some (.int f), some (.int r), some (.int (nI i)), some (.int (bf (nI i)))]) d_Lexer_behindBlanks_17 (by decide) rfl ?_
      refine ab_iload d_Lexer_behindBlanks_19 rfl ?_
      refine ab_bipush (v := 35) d_Lexer_behindBlanks_21 (by decide) ?_
      refine ab_icmp_ne (tgt := 31) d_Lexer_behindBlanks_23 (by decide) (fun q4 => ?_) (fun q4 => ?_)
      · refine ab_iload d_Lexer_behindBlanks_31 rfl ?_
        refine ab_bipush (v := 10) d_Lexer_behindBlanks_33 (by decide) ?_
        refine ab_icmp_ne (tgt := 43) d_Lexer_behindBlanks_35 (by decide) (fun q5 => ?_) (fun q5 => ?_)
        · refine ab_iload_n d_Lexer_behindBlanks_43 rfl rfl ?_
          refine ab_if_ne (tgt := 70) d_Lexer_behindBlanks_44 (by decide) (fun q6 => ?_) (fun q6 => ?_)
          · obtain ⟨x7, ex7⟩ : ∃ q : Int32, q = nI i + 1 := ⟨_, rfl⟩
            refine ab_iinc (v := x7) (lv' := [some (.ref b), some (.int f), some (.int r), some (.int x7), some (.int (bf (nI i)))]) d_Lexer_behindBlanks_70 rfl (by rw [ex7]; rfl) (by decide) rfl ?_
            refine ab_goto (tgt := 4) d_Lexer_behindBlanks_73 (by decide) ?_
            subst ex7
            have heq : sp_bb  bf T (n + 1) i r = sp_bb  bf T n (i + 1) r := by rw [sp_bb]; rw [if_neg q1]; rw [if_pos q4]; rw [if_pos q5]; rw [if_pos q6]; try rfl
            rw [nI_1]
            refine ab_sub (lv' := [some (.ref b), some (.int f), some (.int r), some (.int (nI (i + 1))), none]) (by intro i v hv; match i, hv with | 0, hv => exact hv | 1, hv => exact hv | 2, hv => exact hv | 3, hv => exact hv | 4, hv => exact nomatch (show some (none : Option Value) = some (some v) from hv) | k + 5, hv => exact nomatch (show (none : Option (Option Value)) = some (some v) from hv)) ?_
            refine ab_widen (cells' := cells) (slots' := slots) (by first | exact Nat.le_refl _ | (show _ ≤ _; omega)) (by first | exact Nat.le_refl _ | (show _ ≤ _; omega)) ?_
            exact ih (i + 1) r (by omega) (by omega) (fun rr q => hr rr (heq.trans q)) (fun ee q => hk ee (heq.trans q)) hmc hms
          · refine ab_iload d_Lexer_behindBlanks_47 rfl ?_
            refine ab_bipush (v := 9) d_Lexer_behindBlanks_49 (by decide) ?_
            refine ab_icmp_eq (tgt := 70) d_Lexer_behindBlanks_51 (by decide) (fun q8 => ?_) (fun q8 => ?_)
            · obtain ⟨x9, ex9⟩ : ∃ q : Int32, q = nI i + 1 := ⟨_, rfl⟩
              refine ab_iinc (v := x9) (lv' := [some (.ref b), some (.int f), some (.int r), some (.int x9), some (.int (bf (nI i)))]) d_Lexer_behindBlanks_70 rfl (by rw [ex9]; rfl) (by decide) rfl ?_
              refine ab_goto (tgt := 4) d_Lexer_behindBlanks_73 (by decide) ?_
              subst ex9
              have heq : sp_bb  bf T (n + 1) i r = sp_bb  bf T n (i + 1) r := by rw [sp_bb]; rw [if_neg q1]; rw [if_pos q4]; rw [if_pos q5]; rw [if_neg (fun z => z q6)]; rw [if_pos q8]; try rfl
              rw [nI_1]
              refine ab_sub (lv' := [some (.ref b), some (.int f), some (.int r), some (.int (nI (i + 1))), none]) (by intro i v hv; match i, hv with | 0, hv => exact hv | 1, hv => exact hv | 2, hv => exact hv | 3, hv => exact hv | 4, hv => exact nomatch (show some (none : Option Value) = some (some v) from hv) | k + 5, hv => exact nomatch (show (none : Option (Option Value)) = some (some v) from hv)) ?_
              refine ab_widen (cells' := cells) (slots' := slots) (by first | exact Nat.le_refl _ | (show _ ≤ _; omega)) (by first | exact Nat.le_refl _ | (show _ ≤ _; omega)) ?_
              exact ih (i + 1) r (by omega) (by omega) (fun rr q => hr rr (heq.trans q)) (fun ee q => hk ee (heq.trans q)) hmc hms
            · refine ab_iload d_Lexer_behindBlanks_54 rfl ?_
              refine ab_bipush (v := 13) d_Lexer_behindBlanks_56 (by decide) ?_
              refine ab_icmp_eq (tgt := 70) d_Lexer_behindBlanks_58 (by decide) (fun q10 => ?_) (fun q10 => ?_)
              · obtain ⟨x11, ex11⟩ : ∃ q : Int32, q = nI i + 1 := ⟨_, rfl⟩
                refine ab_iinc (v := x11) (lv' := [some (.ref b), some (.int f), some (.int r), some (.int x11), some (.int (bf (nI i)))]) d_Lexer_behindBlanks_70 rfl (by rw [ex11]; rfl) (by decide) rfl ?_
                refine ab_goto (tgt := 4) d_Lexer_behindBlanks_73 (by decide) ?_
                subst ex11
                have heq : sp_bb  bf T (n + 1) i r = sp_bb  bf T n (i + 1) r := by rw [sp_bb]; rw [if_neg q1]; rw [if_pos q4]; rw [if_pos q5]; rw [if_neg (fun z => z q6)]; rw [if_neg q8]; rw [if_pos q10]; try rfl
                rw [nI_1]
                refine ab_sub (lv' := [some (.ref b), some (.int f), some (.int r), some (.int (nI (i + 1))), none]) (by intro i v hv; match i, hv with | 0, hv => exact hv | 1, hv => exact hv | 2, hv => exact hv | 3, hv => exact hv | 4, hv => exact nomatch (show some (none : Option Value) = some (some v) from hv) | k + 5, hv => exact nomatch (show (none : Option (Option Value)) = some (some v) from hv)) ?_
                refine ab_widen (cells' := cells) (slots' := slots) (by first | exact Nat.le_refl _ | (show _ ≤ _; omega)) (by first | exact Nat.le_refl _ | (show _ ≤ _; omega)) ?_
                exact ih (i + 1) r (by omega) (by omega) (fun rr q => hr rr (heq.trans q)) (fun ee q => hk ee (heq.trans q)) hmc hms
              · refine ab_iload d_Lexer_behindBlanks_61 rfl ?_
                refine ab_bipush (v := 32) d_Lexer_behindBlanks_63 (by decide) ?_
                refine ab_icmp_eq (tgt := 70) d_Lexer_behindBlanks_65 (by decide) (fun q12 => ?_) (fun q12 => ?_)
                · obtain ⟨x13, ex13⟩ : ∃ q : Int32, q = nI i + 1 := ⟨_, rfl⟩
                  refine ab_iinc (v := x13) (lv' := [some (.ref b), some (.int f), some (.int r), some (.int x13), some (.int (bf (nI i)))]) d_Lexer_behindBlanks_70 rfl (by rw [ex13]; rfl) (by decide) rfl ?_
                  refine ab_goto (tgt := 4) d_Lexer_behindBlanks_73 (by decide) ?_
                  subst ex13
                  have heq : sp_bb  bf T (n + 1) i r = sp_bb  bf T n (i + 1) r := by rw [sp_bb]; rw [if_neg q1]; rw [if_pos q4]; rw [if_pos q5]; rw [if_neg (fun z => z q6)]; rw [if_neg q8]; rw [if_neg q10]; rw [if_pos q12]; try rfl
                  rw [nI_1]
                  refine ab_sub (lv' := [some (.ref b), some (.int f), some (.int r), some (.int (nI (i + 1))), none]) (by intro i v hv; match i, hv with | 0, hv => exact hv | 1, hv => exact hv | 2, hv => exact hv | 3, hv => exact hv | 4, hv => exact nomatch (show some (none : Option Value) = some (some v) from hv) | k + 5, hv => exact nomatch (show (none : Option (Option Value)) = some (some v) from hv)) ?_
                  refine ab_widen (cells' := cells) (slots' := slots) (by first | exact Nat.le_refl _ | (show _ ≤ _; omega)) (by first | exact Nat.le_refl _ | (show _ ≤ _; omega)) ?_
                  exact ih (i + 1) r (by omega) (by omega) (fun rr q => hr rr (heq.trans q)) (fun ee q => hk ee (heq.trans q)) hmc hms
                · refine ab_iload_n d_Lexer_behindBlanks_68 rfl rfl ?_
                  exact ab_iret d_Lexer_behindBlanks_69 rfl (by first | exact hmc | (show _ ≤ _; omega)) (by first | exact hms | (show _ ≤ _; omega)) (by exact hr _ (by rw [sp_bb]; rw [if_neg q1]; rw [if_pos q4]; rw [if_pos q5]; rw [if_neg (fun z => z q6)]; rw [if_neg q8]; rw [if_neg q10]; rw [if_neg q12]; try rfl) hmc hms)
        · refine ab_iconst (v := 0) d_Lexer_behindBlanks_38 (by decide) ?_
          refine ab_istore_n (lv' := [some (.ref b), some (.int f), some (.int 0), some (.int (nI i)), some (.int (bf (nI i)))]) d_Lexer_behindBlanks_39 rfl (by decide) rfl ?_
          refine ab_goto (tgt := 70) d_Lexer_behindBlanks_40 (by decide) ?_
          obtain ⟨x14, ex14⟩ : ∃ q : Int32, q = nI i + 1 := ⟨_, rfl⟩
          refine ab_iinc (v := x14) (lv' := [some (.ref b), some (.int f), some (.int 0), some (.int x14), some (.int (bf (nI i)))]) d_Lexer_behindBlanks_70 rfl (by rw [ex14]; rfl) (by decide) rfl ?_
          refine ab_goto (tgt := 4) d_Lexer_behindBlanks_73 (by decide) ?_
          subst ex14
          have heq : sp_bb  bf T (n + 1) i r = sp_bb  bf T n (i + 1) 0 := by rw [sp_bb]; rw [if_neg q1]; rw [if_pos q4]; rw [if_neg (fun z => z q5)]; try rfl
          rw [nI_1]
          refine ab_sub (lv' := [some (.ref b), some (.int f), some (.int 0), some (.int (nI (i + 1))), none]) (by intro i v hv; match i, hv with | 0, hv => exact hv | 1, hv => exact hv | 2, hv => exact hv | 3, hv => exact hv | 4, hv => exact nomatch (show some (none : Option Value) = some (some v) from hv) | k + 5, hv => exact nomatch (show (none : Option (Option Value)) = some (some v) from hv)) ?_
          refine ab_widen (cells' := cells) (slots' := slots) (by first | exact Nat.le_refl _ | (show _ ≤ _; omega)) (by first | exact Nat.le_refl _ | (show _ ≤ _; omega)) ?_
          exact ih (i + 1) 0 (by omega) (by omega) (fun rr q => hr rr (heq.trans q)) (fun ee q => hk ee (heq.trans q)) hmc hms
      · refine ab_iconst (v := 1) d_Lexer_behindBlanks_26 (by decide) ?_
        refine ab_istore_n (lv' := [some (.ref b), some (.int f), some (.int 1), some (.int (nI i)), some (.int (bf (nI i)))]) d_Lexer_behindBlanks_27 rfl (by decide) rfl ?_
        refine ab_goto (tgt := 70) d_Lexer_behindBlanks_28 (by decide) ?_
        obtain ⟨x15, ex15⟩ : ∃ q : Int32, q = nI i + 1 := ⟨_, rfl⟩
        refine ab_iinc (v := x15) (lv' := [some (.ref b), some (.int f), some (.int 1), some (.int x15), some (.int (bf (nI i)))]) d_Lexer_behindBlanks_70 rfl (by rw [ex15]; rfl) (by decide) rfl ?_
        refine ab_goto (tgt := 4) d_Lexer_behindBlanks_73 (by decide) ?_
        subst ex15
        have heq : sp_bb  bf T (n + 1) i r = sp_bb  bf T n (i + 1) 1 := by rw [sp_bb]; rw [if_neg q1]; rw [if_neg (fun z => z q4)]; try rfl
        rw [nI_1]
        refine ab_sub (lv' := [some (.ref b), some (.int f), some (.int 1), some (.int (nI (i + 1))), none]) (by intro i v hv; match i, hv with | 0, hv => exact hv | 1, hv => exact hv | 2, hv => exact hv | 3, hv => exact hv | 4, hv => exact nomatch (show some (none : Option Value) = some (some v) from hv) | k + 5, hv => exact nomatch (show (none : Option (Option Value)) = some (some v) from hv)) ?_
        refine ab_widen (cells' := cells) (slots' := slots) (by first | exact Nat.le_refl _ | (show _ ≤ _; omega)) (by first | exact Nat.le_refl _ | (show _ ≤ _; omega)) ?_
        exact ih (i + 1) 1 (by omega) (by omega) (fun rr q => hr rr (heq.trans q)) (fun ee q => hk ee (heq.trans q)) hmc hms
def lx_bb (bf : Int32 → Int32) (T f : Nat) : Int32 := match sp_bb bf T (T - f) f 0 with
  | .inl r => r
  | .inr _ => nI T
set_option maxRecDepth 20000 in
set_option maxHeartbeats 2000000 in
theorem c_Lexer_behindBlanks {h : List ab_E} {b : Nat} {s : Nat → Int32} {a : Nat → Nat → Int32} {bf : Int32 → Int32} {T f : Nat} (hl : at_Lexer h b s a) (hT : s 1 = nI T) (hT2 : T ≤ 6000) (hb : ∀ i, lx_byte s a i = bf i) (hf : f < 2 ^ 31) : ab_M y_Lexer_behindBlanks { frames := 1, cells := 0, slots := 0, locals := 40 } [.ref b, .int (nI f)] h (ab_A (some (.int (lx_bb bf T f))) (fun h1 => h = h1)) := by
  have hl0 := hl; obtain ⟨go, g0, g6, g7, g8, g9, g12⟩ := hl
  replace go : h[b]? = some (.inr (1, [.ref (b + 1), .int (nI T), .int (s 2), .int (s 3), .int (s 4), .int (s 5), .ref (b + 2), .ref (b + 3), .ref (b + 4), .ref (b + 5), .int (s 10), .int (s 11), .ref (b + 6)])) := (by rw [← hT]; exact go)
  refine ab_of2 (lv := [some (.ref b), some (.int (nI f)), none, none, none]) 3 rfl rfl (Nat.le_of_ble_eq_true rfl) ?_
  refine ab_iconst (v := 0) d_Lexer_behindBlanks_0 (by decide) ?_
  refine ab_istore_n (lv' := [some (.ref b), some (.int (nI f)), some (.int 0), none, none]) d_Lexer_behindBlanks_1 rfl (by decide) rfl ?_
  refine ab_iload_n d_Lexer_behindBlanks_2 rfl rfl ?_
  refine ab_istore_n (lv' := [some (.ref b), some (.int (nI f)), some (.int 0), some (.int (nI f)), none]) d_Lexer_behindBlanks_3 rfl (by decide) rfl ?_
  by_cases hfT : f ≤ T
  · refine l_bb hl0 hT hT2 hb (Nat.le_refl _) (Nat.le_refl _) (T - f) f 0 (by omega) (by omega) (fun rr q _ _ => ⟨by unfold lx_bb; rw [q], rfl⟩) (fun ee q _ => ?_) (Nat.le_refl _) (Nat.le_refl _)
    refine ab_aload_n d_Lexer_behindBlanks_76 rfl rfl rfl ?_
    refine ab_get (f := 1) d_Lexer_behindBlanks_77 go rfl (by decide) (k1 95 rfl rfl) rfl ?_
    exact ab_iret d_Lexer_behindBlanks_80 rfl (Nat.le_refl _) (Nat.le_refl _) ⟨by unfold lx_bb; rw [q], rfl⟩
  · refine ab_iload_n d_Lexer_behindBlanks_4 rfl rfl ?_
    refine ab_aload_n d_Lexer_behindBlanks_5 rfl rfl rfl ?_
    refine ab_get (f := 1) d_Lexer_behindBlanks_6 go rfl (by decide) (k1 95 rfl rfl) rfl ?_
    refine ab_icmp_ge (tgt := 76) d_Lexer_behindBlanks_9 (by decide) (fun q1 => ?_) (fun q1 => ?_)
    · refine ab_aload_n d_Lexer_behindBlanks_76 rfl rfl rfl ?_
      refine ab_get (f := 1) d_Lexer_behindBlanks_77 go rfl (by decide) (k1 95 rfl rfl) rfl ?_
      exact ab_iret d_Lexer_behindBlanks_80 rfl (Nat.le_refl _) (Nat.le_refl _) ⟨by unfold lx_bb; rw [show T - f = 0 by omega, sp_bb_0], rfl⟩
    · exact absurd (nI_le (by omega) (by omega)) q1
def sp_bn  (bf : Int32 → Int32) (T : Nat) : Nat → Nat → Nat
  | 0, i => i
  | n + 1, i => if (nI T) ≤ (nI i) then i else if ¬ (sp_letter (bf (nI i))) = (0 : Int32) then sp_bn  bf T n (i + 1)  else if (sp_digit (bf (nI i))) = (0 : Int32) then i else sp_bn  bf T n (i + 1) 
termination_by n => n
theorem sp_bn_0  (bf : Int32 → Int32) (T : Nat) (i : Nat)  : sp_bn  bf T 0 i  = i := by rw [sp_bn]
set_option maxRecDepth 20000 in
set_option maxHeartbeats 2000000 in
theorem l_bn {h : List ab_E} {b : Nat} {s : Nat → Int32} {a : Nat → Nat → Int32} {bf : Int32 → Int32} {T : Nat} {Po : Outcome → List ab_E → Prop} {mc ms cells slots : Nat} (hl : at_Lexer h b s a) {f : Int32} (hT : s 1 = nI T) (hT2 : T ≤ 6000) (hb : ∀ i, lx_byte s a i = bf i) (hcl : cells ≤ ({ frames := 5, cells := 0, slots := 0, locals := 200 } : Room).cells) (hsl : slots ≤ ({ frames := 5, cells := 0, slots := 0, locals := 200 } : Room).slots) : ∀ (n i : Nat) , T ≤ i + n → i ≤ T → (i ≤ (sp_bn  bf T n i ) → (sp_bn  bf T n i ) ≤ T → ab_V y_Lexer_behindName { frames := 5, cells := 0, slots := 0, locals := 200 } Po mc ms cells slots 38 [some (.ref b), some (.int f), some (.int (nI (sp_bn  bf T n i ))), none] [] h) → ab_V y_Lexer_behindName { frames := 5, cells := 0, slots := 0, locals := 200 } Po mc ms cells slots 2 [some (.ref b), some (.int f), some (.int (nI i)), none] [] h := by
  have hl0 := hl; obtain ⟨go, g0, g6, g7, g8, g9, g12⟩ := hl
  replace go : h[b]? = some (.inr (1, [.ref (b + 1), .int (nI T), .int (s 2), .int (s 3), .int (s 4), .int (s 5), .ref (b + 2), .ref (b + 3), .ref (b + 4), .ref (b + 5), .int (s 10), .int (s 11), .ref (b + 6)])) := (by rw [← hT]; exact go)
  intro n
  induction n with
  | zero =>
    intro i  hif hiT hk
    refine ab_iload_n d_Lexer_behindName_2 rfl rfl ?_
    refine ab_aload_n d_Lexer_behindName_3 rfl rfl rfl ?_
    refine ab_get (f := 1) d_Lexer_behindName_4 go rfl (by decide) (k1 95 rfl rfl) rfl ?_
    refine ab_icmp_ge (tgt := 38) d_Lexer_behindName_7 (by decide) (fun q1 => ?_) (fun q1 => ?_)
    · rw [sp_bn_0] at hk
      exact hk (Nat.le_refl _) hiT
    · exact absurd (nI_le (a := T) (b := i) (by omega) (by omega)) q1
  | succ n ih =>
    intro i  hif hiT hk
    refine ab_iload_n d_Lexer_behindName_2 rfl rfl ?_
    refine ab_aload_n d_Lexer_behindName_3 rfl rfl rfl ?_
    refine ab_get (f := 1) d_Lexer_behindName_4 go rfl (by decide) (k1 95 rfl rfl) rfl ?_
    refine ab_icmp_ge (tgt := 38) d_Lexer_behindName_7 (by decide) (fun q1 => ?_) (fun q1 => ?_)
    · have heq : (sp_bn  bf T (n + 1) i ) = i := by rw [sp_bn]; rw [if_pos q1]; try rfl
      refine ab_widen (cells' := cells) (slots' := slots) (by first | exact Nat.le_refl _ | (show _ ≤ _; omega)) (by first | exact Nat.le_refl _ | (show _ ≤ _; omega)) ?_
      rw [heq] at hk
      exact hk (by first | omega | (show _ ≤ _; omega)) (by first | omega | (show _ ≤ _; omega))
    · have hlt : i < T := Nat.lt_of_not_le (fun z => q1 (by first | exact nI_le z (by omega) | (rw [hT]; exact nI_le z (by omega))))
      refine ab_aload_n d_Lexer_behindName_10 rfl rfl rfl ?_
      refine ab_iload_n d_Lexer_behindName_11 rfl rfl ?_
      refine ab_callV_a (As := [.int (nI i)]) (rest := []) d_Lexer_behindName_12 (c_bf hl0 (nI_pos (by omega)) hT hT2 hb) (ab_mkC s_Lexer_byteAt (Nat.le_of_ble_eq_true rfl) (Nat.le_of_ble_eq_true rfl) (by first | exact hcl | (show _ ≤ _; omega)) (by first | exact hsl | (show _ ≤ _; omega))) (k3 226 rfl rfl) i_Lexer_byteAt v_Lexer_byteAt go rfl rfl (Nat.le_of_ble_eq_true rfl) (fun h3 q2 => ?_)
      subst q2
      refine ab_callS_a (As := [.int (bf (nI i))]) (rest := []) d_Lexer_behindName_15 (c_Lexer_isLetter) (ab_mkC s_Lexer_isLetter (Nat.le_of_ble_eq_true rfl) (Nat.le_of_ble_eq_true rfl) (by first | exact hcl | (show _ ≤ _; omega)) (by first | exact hsl | (show _ ≤ _; omega))) (k3 234 rfl rfl) t_Lexer_isLetter rfl (Nat.le_of_ble_eq_true rfl) (fun h5 q4 => ?_)
      subst q4
      refine ab_if_ne (tgt := 32) d_Lexer_behindName_18 (by decide) (fun q6 => ?_) (fun q6 => ?_)
      · obtain ⟨x7, ex7⟩ : ∃ q : Int32, q = nI i + 1 := ⟨_, rfl⟩
        refine ab_iinc (v := x7) (lv' := [some (.ref b), some (.int f), some (.int x7), none]) d_Lexer_behindName_32 rfl (by rw [ex7]; rfl) (by decide) rfl ?_
        refine ab_goto (tgt := 2) d_Lexer_behindName_35 (by decide) ?_
        subst ex7
        have heq : (sp_bn  bf T (n + 1) i ) = (sp_bn  bf T n (i + 1) ) := by rw [sp_bn]; rw [if_neg q1]; rw [if_pos q6]; try rfl
        rw [nI_1]
        refine ab_widen (cells' := cells) (slots' := slots) (by first | exact Nat.le_refl _ | (show _ ≤ _; omega)) (by first | exact Nat.le_refl _ | (show _ ≤ _; omega)) ?_
        rw [heq] at hk
        exact ih (i + 1)  (by omega) (by omega) (fun q1 q2 => hk (by omega) q2)
      · refine ab_aload_n d_Lexer_behindName_21 rfl rfl rfl ?_
        refine ab_iload_n d_Lexer_behindName_22 rfl rfl ?_
        refine ab_callV_a (As := [.int (nI i)]) (rest := []) d_Lexer_behindName_23 (c_bf hl0 (nI_pos (by omega)) hT hT2 hb) (ab_mkC s_Lexer_byteAt (Nat.le_of_ble_eq_true rfl) (Nat.le_of_ble_eq_true rfl) (by first | exact hcl | (show _ ≤ _; omega)) (by first | exact hsl | (show _ ≤ _; omega))) (k3 226 rfl rfl) i_Lexer_byteAt v_Lexer_byteAt go rfl rfl (Nat.le_of_ble_eq_true rfl) (fun h9 q8 => ?_)
        subst q8
        refine ab_callS_a (As := [.int (bf (nI i))]) (rest := []) d_Lexer_behindName_26 (c_Lexer_isDigit) (ab_mkC s_Lexer_isDigit (Nat.le_of_ble_eq_true rfl) (Nat.le_of_ble_eq_true rfl) (by first | exact hcl | (show _ ≤ _; omega)) (by first | exact hsl | (show _ ≤ _; omega))) (k4 1 rfl rfl) t_Lexer_isDigit rfl (Nat.le_of_ble_eq_true rfl) (fun h11 q10 => ?_)
        subst q10
        refine ab_if_eq (tgt := 38) d_Lexer_behindName_29 (by decide) (fun q12 => ?_) (fun q12 => ?_)
        · have heq : (sp_bn  bf T (n + 1) i ) = i := by rw [sp_bn]; rw [if_neg q1]; rw [if_neg (fun z => z q6)]; rw [if_pos q12]; try rfl
          refine ab_widen (cells' := cells) (slots' := slots) (by first | exact Nat.le_refl _ | (show _ ≤ _; omega)) (by first | exact Nat.le_refl _ | (show _ ≤ _; omega)) ?_
          rw [heq] at hk
          exact hk (by first | omega | (show _ ≤ _; omega)) (by first | omega | (show _ ≤ _; omega))
        · obtain ⟨x13, ex13⟩ : ∃ q : Int32, q = nI i + 1 := ⟨_, rfl⟩
          refine ab_iinc (v := x13) (lv' := [some (.ref b), some (.int f), some (.int x13), none]) d_Lexer_behindName_32 rfl (by rw [ex13]; rfl) (by decide) rfl ?_
          refine ab_goto (tgt := 2) d_Lexer_behindName_35 (by decide) ?_
          subst ex13
          have heq : (sp_bn  bf T (n + 1) i ) = (sp_bn  bf T n (i + 1) ) := by rw [sp_bn]; rw [if_neg q1]; rw [if_neg (fun z => z q6)]; rw [if_neg q12]; try rfl
          rw [nI_1]
          refine ab_widen (cells' := cells) (slots' := slots) (by first | exact Nat.le_refl _ | (show _ ≤ _; omega)) (by first | exact Nat.le_refl _ | (show _ ≤ _; omega)) ?_
          rw [heq] at hk
          exact ih (i + 1)  (by omega) (by omega) (fun q1 q2 => hk (by omega) q2)
