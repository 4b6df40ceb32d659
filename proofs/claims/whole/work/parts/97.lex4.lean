def kst (w : Nat) : Nat := ([0, 10, 16, 23, 30, 36, 41, 49, 56, 62, 66, 71, 75, 80, 84, 88, 91, 96, 102, 106, 109, 114, 119, 125, 130, 135, 140, 144, 149, 152, 157, 162, 167, 173, 178, 183, 188, 194, 199, 205, 210, 214] : List Nat).getD w 0
theorem kept0_v : ∀ w, w < 42 → kept0 w = nI (kst w) := by decide +kernel
theorem kst_le : ∀ w, w < 41 → kst w + 1 ≤ kst (w + 1) ∧ kst (w + 1) ≤ 214 := by decide
theorem nI_sub1 {a b : Nat} (h : b ≤ a) : nI a - nI b = nI (a - b) := by
  have e : nI (a - b) + nI b = nI a := by rw [nI_add, show a - b + b = a by omega]
  rw [← e]
  exact Int32.add_sub_cancel _ _
theorem kst_len {w k : Nat} (hw : w < 41) (hk : k < 2 ^ 31) (h : nI (kst (w + 1)) - 1 - nI (kst w) = nI k) : kst (w + 1) = kst w + k + 1 := by
  obtain ⟨h1, h2⟩ := kst_le w hw
  rw [show (1 : Int32) = nI 1 from rfl, nI_sub1 (by omega), nI_sub1 (by omega)] at h
  have z := congrArg Int32.toNatClampNeg h
  rw [nI_clamp (by omega), nI_clamp (by omega)] at z
  omega
def sp_sm  (bf : Int32 → Int32) (f k w : Nat) : Nat → Nat → Nat
  | 0, i => i
  | n + 1, i => if (nI k) ≤ (nI i) then i else if ¬ (bf (nI (f + i))) = (kb (kst w + i)) then i else sp_sm  bf f k w n (i + 1) 
termination_by n => n
theorem sp_sm_0  (bf : Int32 → Int32) (f k w : Nat) (i : Nat)  : sp_sm  bf f k w 0 i  = i := by rw [sp_sm]
set_option maxRecDepth 20000 in
set_option maxHeartbeats 2000000 in
theorem l_sm {h : List ab_E} {b : Nat} {s : Nat → Int32} {a : Nat → Nat → Int32} {bf : Int32 → Int32} {f k w : Nat} {Po : Outcome → List ab_E → Prop} {mc ms cells slots : Nat} (hl : at_Lexer h b s a) {T : Nat} (hT : s 1 = nI T) (hT2 : T ≤ 6000) (hb : ∀ i, lx_byte s a i = bf i) (h12 : a 12 = kept0) (hf : f ≤ 6000) (hk6 : k ≤ 6000) (hw : w < 41) (hwk : kst w + k ≤ 213) (hcl : cells ≤ ({ frames := 4, cells := 0, slots := 0, locals := 160 } : Room).cells) (hsl : slots ≤ ({ frames := 4, cells := 0, slots := 0, locals := 160 } : Room).slots) : ∀ (n i : Nat) , k ≤ i + n → i ≤ k → (i ≤ (sp_sm  bf f k w n i ) → (sp_sm  bf f k w n i ) ≤ k → ab_V y_Lexer_wordOf { frames := 4, cells := 0, slots := 0, locals := 160 } Po mc ms cells slots 69 [some (.ref b), some (.int (nI f)), some (.int (nI k)), some (.int (nI w)), some (.int (nI (sp_sm  bf f k w n i )))] [] h) → ab_V y_Lexer_wordOf { frames := 4, cells := 0, slots := 0, locals := 160 } Po mc ms cells slots 32 [some (.ref b), some (.int (nI f)), some (.int (nI k)), some (.int (nI w)), some (.int (nI i))] [] h := by
  have hl0 := hl; obtain ⟨go, g0, g6, g7, g8, g9, g12⟩ := hl
  replace go : h[b]? = some (.inr (1, [.ref (b + 1), .int (nI T), .int (s 2), .int (s 3), .int (s 4), .int (s 5), .ref (b + 2), .ref (b + 3), .ref (b + 4), .ref (b + 5), .int (s 10), .int (s 11), .ref (b + 6)])) := (by rw [← hT]; exact go)
  intro n
  induction n with
  | zero =>
    intro i  hif hiT hk
    refine ab_iload d_Lexer_wordOf_32 rfl ?_
    refine ab_iload_n d_Lexer_wordOf_34 rfl rfl ?_
    refine ab_icmp_ge (tgt := 69) d_Lexer_wordOf_35 (by decide) (fun q1 => ?_) (fun q1 => ?_)
    · rw [sp_sm_0] at hk
      exact hk (Nat.le_refl _) hiT
    · exact absurd (nI_le (a := k) (b := i) (by omega) (by omega)) q1
  | succ n ih =>
    intro i  hif hiT hk
    refine ab_iload d_Lexer_wordOf_32 rfl ?_
    refine ab_iload_n d_Lexer_wordOf_34 rfl rfl ?_
    refine ab_icmp_ge (tgt := 69) d_Lexer_wordOf_35 (by decide) (fun q1 => ?_) (fun q1 => ?_)
    · have heq : (sp_sm  bf f k w (n + 1) i ) = i := by rw [sp_sm]; rw [if_pos q1]; try rfl
      refine ab_widen (cells' := cells) (slots' := slots) (by first | exact Nat.le_refl _ | (show _ ≤ _; omega)) (by first | exact Nat.le_refl _ | (show _ ≤ _; omega)) ?_
      rw [heq] at hk
      exact hk (by first | omega | (show _ ≤ _; omega)) (by first | omega | (show _ ≤ _; omega))
    · have hlt : i < k := Nat.lt_of_not_le (fun z => q1 (by first | exact nI_le z (by omega) | (rw [hT]; exact nI_le z (by omega))))
      refine ab_aload_n d_Lexer_wordOf_38 rfl rfl rfl ?_
      refine ab_iload_n d_Lexer_wordOf_39 rfl rfl ?_
      refine ab_iload d_Lexer_wordOf_40 rfl ?_
      refine ab_iadd d_Lexer_wordOf_42 ?_
      refine ab_topi (fun x2 ex2 => ?_)
      obtain rfl : x2 = nI (f + i) := ex2.trans (nI_add _ _)
      clear ex2
      refine ab_callV_a (As := [.int (nI (f + i))]) (rest := []) d_Lexer_wordOf_43 (c_bf hl0 (nI_pos (by omega)) hT hT2 hb) (ab_mkC s_Lexer_byteAt (Nat.le_of_ble_eq_true rfl) (Nat.le_of_ble_eq_true rfl) (by first | exact hcl | (show _ ≤ _; omega)) (by first | exact hsl | (show _ ≤ _; omega))) (k3 226 rfl rfl) i_Lexer_byteAt v_Lexer_byteAt go rfl rfl (Nat.le_of_ble_eq_true rfl) (fun h4 q3 => ?_)
      subst q3
      refine ab_ldcS (k0 := 0) d_Lexer_wordOf_46 (List.mem_of_getElem? (i := 0) rfl) rfl rfl rfl ?_
      refine ab_aload_n d_Lexer_wordOf_48 rfl rfl rfl ?_
      refine ab_get (f := 12) d_Lexer_wordOf_49 go rfl (by decide) (k1 114 rfl rfl) rfl ?_
      refine ab_iload_n d_Lexer_wordOf_52 rfl rfl ?_
      refine ab_iald d_Lexer_wordOf_53 tI g12 (vp_in_nI (by omega) (by decide)) ?_
      refine ab_topi (fun x5 ex5 => ?_)
      obtain rfl : x5 = nI (kst w) := ex5.trans (by rw [h12, nI_clamp (by omega)]; exact kept0_v _ (by omega))
      clear ex5
      refine ab_iload d_Lexer_wordOf_54 rfl ?_
      refine ab_iadd d_Lexer_wordOf_56 ?_
      refine ab_topi (fun x6 ex6 => ?_)
      obtain rfl : x6 = nI (kst w + i) := ex6.trans (nI_add _ _)
      clear ex6
      refine ab_callVK_a (k0 := 0) (As := [.int (nI (kst w + i))]) (rest := [.int (bf (nI (f + i)))]) d_Lexer_wordOf_57 (by decide) (c_Str_charAt (by omega)) (ab_mkC s_Str_charAt (Nat.le_of_ble_eq_true rfl) (Nat.le_of_ble_eq_true rfl) (by first | exact hcl | (show _ ≤ _; omega)) (by first | exact hsl | (show _ ≤ _; omega))) (k1 56 rfl rfl) i_Str_charAt v_Str_charAt rfl (Nat.le_of_ble_eq_true rfl) (fun h8 q7 => ?_)
      subst q7
      refine ab_icmp_ne (tgt := 69) d_Lexer_wordOf_60 (by decide) (fun q9 => ?_) (fun q9 => ?_)
      · have heq : (sp_sm  bf f k w (n + 1) i ) = i := by rw [sp_sm]; rw [if_neg q1]; rw [if_pos q9]; try rfl
        refine ab_widen (cells' := cells) (slots' := slots) (by first | exact Nat.le_refl _ | (show _ ≤ _; omega)) (by first | exact Nat.le_refl _ | (show _ ≤ _; omega)) ?_
        rw [heq] at hk
        exact hk (by first | omega | (show _ ≤ _; omega)) (by first | omega | (show _ ≤ _; omega))
      · obtain ⟨x10, ex10⟩ : ∃ q : Int32, q = nI i + 1 := ⟨_, rfl⟩
        refine ab_iinc (v := x10) (lv' := [some (.ref b), some (.int (nI f)), some (.int (nI k)), some (.int (nI w)), some (.int x10)]) d_Lexer_wordOf_63 rfl (by rw [ex10]; rfl) (by decide) rfl ?_
        refine ab_goto (tgt := 32) d_Lexer_wordOf_66 (by decide) ?_
        subst ex10
        have heq : (sp_sm  bf f k w (n + 1) i ) = (sp_sm  bf f k w n (i + 1) ) := by rw [sp_sm]; rw [if_neg q1]; rw [if_neg (fun z => z q9)]; try rfl
        rw [nI_1]
        refine ab_widen (cells' := cells) (slots' := slots) (by first | exact Nat.le_refl _ | (show _ ≤ _; omega)) (by first | exact Nat.le_refl _ | (show _ ≤ _; omega)) ?_
        rw [heq] at hk
        exact ih (i + 1)  (by omega) (by omega) (fun q1 q2 => hk (by omega) q2)
def sp_wo  (bf : Int32 → Int32) (f k : Nat) : Nat → Nat → Int32 ⊕ (Nat)
  | 0, i => .inr i
  | n + 1, i => if (41 : Int32) ≤ (nI i) then .inr i else if ¬ (((nI (kst (i + 1))) - 1) - (nI (kst i))) = (nI k) then sp_wo  bf f k n (i + 1)  else if ¬ (nI (sp_sm bf f k i k 0 )) = (nI k) then sp_wo  bf f k n (i + 1)  else .inl (40 + (nI i))
termination_by n => n
theorem sp_wo_0  (bf : Int32 → Int32) (f k : Nat) (i : Nat)  : sp_wo  bf f k 0 i  = .inr i := by rw [sp_wo]
set_option maxRecDepth 20000 in
set_option maxHeartbeats 2000000 in
theorem l_wo {h : List ab_E} {b : Nat} {s : Nat → Int32} {a : Nat → Nat → Int32} {bf : Int32 → Int32} {f k : Nat} {Po : Outcome → List ab_E → Prop} {mc ms cells slots : Nat} (hl : at_Lexer h b s a) {T : Nat} (hT : s 1 = nI T) (hT2 : T ≤ 6000) (hb : ∀ i, lx_byte s a i = bf i) (h12 : a 12 = kept0) (hf : f ≤ 6000) (hk6 : k ≤ 6000) (hcl : cells ≤ ({ frames := 4, cells := 0, slots := 0, locals := 160 } : Room).cells) (hsl : slots ≤ ({ frames := 4, cells := 0, slots := 0, locals := 160 } : Room).slots) : ∀ (n i : Nat) , 41 ≤ i + n → i ≤ 41 → (∀ rr, sp_wo  bf f k n i  = .inl rr → cells ≤ mc → slots ≤ ms → Po (.returned (some (.int rr))) h) → (∀ ee : Nat, sp_wo  bf f k n i  = .inr ee → ee ≤ 41 → ab_V y_Lexer_wordOf { frames := 4, cells := 0, slots := 0, locals := 160 } Po mc ms cells slots 86 [some (.ref b), some (.int (nI f)), some (.int (nI k)), some (.int (nI ee)), none] [] h) → (cells ≤ mc) → (slots ≤ ms) → ab_V y_Lexer_wordOf { frames := 4, cells := 0, slots := 0, locals := 160 } Po mc ms cells slots 2 [some (.ref b), some (.int (nI f)), some (.int (nI k)), some (.int (nI i)), none] [] h := by
  have hl0 := hl; obtain ⟨go, g0, g6, g7, g8, g9, g12⟩ := hl
  replace go : h[b]? = some (.inr (1, [.ref (b + 1), .int (nI T), .int (s 2), .int (s 3), .int (s 4), .int (s 5), .ref (b + 2), .ref (b + 3), .ref (b + 4), .ref (b + 5), .int (s 10), .int (s 11), .ref (b + 6)])) := (by rw [← hT]; exact go)
  intro n
  induction n with
  | zero =>
    intro i  hif hiT hr hk hmc hms
    refine ab_iload_n d_Lexer_wordOf_2 rfl rfl ?_
    refine ab_bipush (v := 41) d_Lexer_wordOf_3 (by decide) ?_
    refine ab_icmp_ge (tgt := 86) d_Lexer_wordOf_5 (by decide) (fun q1 => ?_) (fun q1 => ?_)
    · have hiN : i = 41 := (by omega)
      exact hk i (sp_wo_0 ..) hiT
    · exact absurd (nI_le (a := 41) (b := i) (by omega) (by omega)) q1
  | succ n ih =>
    intro i  hif hiT hr hk hmc hms
    refine ab_iload_n d_Lexer_wordOf_2 rfl rfl ?_
    refine ab_bipush (v := 41) d_Lexer_wordOf_3 (by decide) ?_
    refine ab_icmp_ge (tgt := 86) d_Lexer_wordOf_5 (by decide) (fun q1 => ?_) (fun q1 => ?_)
    · have heq : sp_wo  bf f k (n + 1) i  = .inr i := by rw [sp_wo]; rw [if_pos q1]; try rfl
      refine ab_widen (cells' := cells) (slots' := slots) (by first | exact Nat.le_refl _ | (show _ ≤ _; omega)) (by first | exact Nat.le_refl _ | (show _ ≤ _; omega)) ?_
      exact hk i heq (by first | omega | (show _ ≤ _; omega))
    · have hlt : i < 41 := Nat.lt_of_not_le (fun z => q1 (by first | exact nI_le z (by omega) | (rw [hT]; exact nI_le z (by omega))))
      refine ab_aload_n d_Lexer_wordOf_8 rfl rfl rfl ?_
      refine ab_get (f := 12) d_Lexer_wordOf_9 go rfl (by decide) (k1 114 rfl rfl) rfl ?_
      refine ab_iload_n d_Lexer_wordOf_12 rfl rfl ?_
      refine ab_iconst (v := 1) d_Lexer_wordOf_13 (by decide) ?_
      refine ab_iadd d_Lexer_wordOf_14 ?_
      refine ab_topi (fun x2 ex2 => ?_)
      obtain rfl : x2 = nI (i + 1) := ex2.trans (nI_1 _)
      clear ex2
      refine ab_iald d_Lexer_wordOf_15 tI g12 (vp_in_nI (by omega) (by decide)) ?_
      refine ab_topi (fun x3 ex3 => ?_)
      obtain rfl : x3 = nI (kst (i + 1)) := ex3.trans (by rw [h12, nI_clamp (by omega)]; exact kept0_v _ (by omega))
      clear ex3
      refine ab_iconst (v := 1) d_Lexer_wordOf_16 (by decide) ?_
      refine ab_isub d_Lexer_wordOf_17 ?_
      refine ab_aload_n d_Lexer_wordOf_18 rfl rfl rfl ?_
      refine ab_get (f := 12) d_Lexer_wordOf_19 go rfl (by decide) (k1 114 rfl rfl) rfl ?_
      refine ab_iload_n d_Lexer_wordOf_22 rfl rfl ?_
      refine ab_iald d_Lexer_wordOf_23 tI g12 (vp_in_nI (by omega) (by decide)) ?_
      refine ab_topi (fun x4 ex4 => ?_)
      obtain rfl : x4 = nI (kst i) := ex4.trans (by rw [h12, nI_clamp (by omega)]; exact kept0_v _ (by omega))
      clear ex4
      refine ab_isub d_Lexer_wordOf_24 ?_
      refine ab_iload_n d_Lexer_wordOf_25 rfl rfl ?_
      refine ab_icmp_ne (tgt := 80) d_Lexer_wordOf_26 (by decide) (fun q5 => ?_) (fun q5 => ?_)
      · obtain ⟨x6, ex6⟩ : ∃ q : Int32, q = nI i + 1 := ⟨_, rfl⟩
        refine ab_iinc (v := x6) (lv' := [some (.ref b), some (.int (nI f)), some (.int (nI k)), some (.int x6), none]) d_Lexer_wordOf_80 rfl (by rw [ex6]; rfl) (by decide) rfl ?_
        refine ab_goto (tgt := 2) d_Lexer_wordOf_83 (by decide) ?_
        subst ex6
        have heq : sp_wo  bf f k (n + 1) i  = sp_wo  bf f k n (i + 1)  := by rw [sp_wo]; rw [if_neg q1]; rw [if_pos q5]; try rfl
        rw [nI_1]
        refine ab_widen (cells' := cells) (slots' := slots) (by first | exact Nat.le_refl _ | (show _ ≤ _; omega)) (by first | exact Nat.le_refl _ | (show _ ≤ _; omega)) ?_
        exact ih (i + 1)  (by omega) (by omega) (fun rr q => hr rr (heq.trans q)) (fun ee q => hk ee (heq.trans q)) hmc hms
      · refine ab_iconst (v := 0) d_Lexer_wordOf_29 (by decide) ?_
        refine ab_istore (lv' := [some (.ref b), some (.int (nI f)), some (.int (nI k)), some (.int (nI i)), some (.int 0)]) d_Lexer_wordOf_30 (by decide) rfl ?_
        refine l_sm hl0 hT hT2 hb h12 hf hk6 hlt (by have z1 := kst_len hlt (by omega) q5; have z2 := (kst_le i hlt).2; omega) (by first | exact hcl | (show _ ≤ _; omega)) (by first | exact hsl | (show _ ≤ _; omega)) k 0  (by omega) (by omega) (fun g7 g8 => ?_)
        refine ab_iload d_Lexer_wordOf_69 rfl ?_
        refine ab_iload_n d_Lexer_wordOf_71 rfl rfl ?_
        refine ab_icmp_ne (tgt := 80) d_Lexer_wordOf_72 (by decide) (fun q9 => ?_) (fun q9 => ?_)
        · obtain ⟨x10, ex10⟩ : ∃ q : Int32, q = nI i + 1 := ⟨_, rfl⟩
          refine ab_iinc (v := x10) (lv' := [some (.ref b), some (.int (nI f)), some (.int (nI k)), some (.int x10), some (.int (nI (sp_sm bf f k i k 0 )))]) d_Lexer_wordOf_80 rfl (by rw [ex10]; rfl) (by decide) rfl ?_
          refine ab_goto (tgt := 2) d_Lexer_wordOf_83 (by decide) ?_
          subst ex10
          have heq : sp_wo  bf f k (n + 1) i  = sp_wo  bf f k n (i + 1)  := by rw [sp_wo]; rw [if_neg q1]; rw [if_neg (fun z => z q5)]; rw [if_pos q9]; try rfl
          rw [nI_1]
          refine ab_sub (lv' := [some (.ref b), some (.int (nI f)), some (.int (nI k)), some (.int (nI (i + 1))), none]) (by intro i v hv; match i, hv with | 0, hv => exact hv | 1, hv => exact hv | 2, hv => exact hv | 3, hv => exact hv | 4, hv => exact nomatch (show some (none : Option Value) = some (some v) from hv) | k + 5, hv => exact nomatch (show (none : Option (Option Value)) = some (some v) from hv)) ?_
          refine ab_widen (cells' := cells) (slots' := slots) (by first | exact Nat.le_refl _ | (show _ ≤ _; omega)) (by first | exact Nat.le_refl _ | (show _ ≤ _; omega)) ?_
          exact ih (i + 1)  (by omega) (by omega) (fun rr q => hr rr (heq.trans q)) (fun ee q => hk ee (heq.trans q)) hmc hms
        · refine ab_bipush (v := 40) d_Lexer_wordOf_75 (by decide) ?_
          refine ab_iload_n d_Lexer_wordOf_77 rfl rfl ?_
          refine ab_iadd d_Lexer_wordOf_78 ?_
          exact ab_iret d_Lexer_wordOf_79 rfl (by first | exact hmc | (show _ ≤ _; omega)) (by first | exact hms | (show _ ≤ _; omega)) (by exact hr _ (by rw [sp_wo]; rw [if_neg q1]; rw [if_neg (fun z => z q5)]; rw [if_neg (fun z => z q9)]; try rfl) hmc hms)
def lx_word (bf : Int32 → Int32) (f k : Nat) : Int32 := match sp_wo bf f k 41 0 with
  | .inl r => r
  | .inr _ => 2
set_option maxRecDepth 20000 in
set_option maxHeartbeats 2000000 in
theorem c_Lexer_wordOf {h : List ab_E} {b : Nat} {s : Nat → Int32} {a : Nat → Nat → Int32} {bf : Int32 → Int32} {T f k : Nat} (hl : at_Lexer h b s a) (hT : s 1 = nI T) (hT2 : T ≤ 6000) (hb : ∀ i, lx_byte s a i = bf i) (h12 : a 12 = kept0) (hf : f ≤ 6000) (hk6 : k ≤ 6000) : ab_M y_Lexer_wordOf { frames := 4, cells := 0, slots := 0, locals := 160 } [.ref b, .int (nI f), .int (nI k)] h (ab_A (some (.int (lx_word bf f k))) (fun h1 => h = h1)) := by
  have hl0 := hl; obtain ⟨go, g0, g6, g7, g8, g9, g12⟩ := hl
  replace go : h[b]? = some (.inr (1, [.ref (b + 1), .int (nI T), .int (s 2), .int (s 3), .int (s 4), .int (s 5), .ref (b + 2), .ref (b + 3), .ref (b + 4), .ref (b + 5), .int (s 10), .int (s 11), .ref (b + 6)])) := (by rw [← hT]; exact go)
  refine ab_of2 (lv := [some (.ref b), some (.int (nI f)), some (.int (nI k)), none, none]) 2 rfl rfl (Nat.le_of_ble_eq_true rfl) ?_
  refine ab_iconst (v := 0) d_Lexer_wordOf_0 (by decide) ?_
  refine ab_istore_n (lv' := [some (.ref b), some (.int (nI f)), some (.int (nI k)), some (.int 0), none]) d_Lexer_wordOf_1 rfl (by decide) rfl ?_
  refine l_wo hl0 hT hT2 hb h12 hf hk6 (Nat.le_refl _) (Nat.le_refl _) 41 0 (by omega) (by omega) (fun rr q _ _ => ⟨by unfold lx_word; rw [q], rfl⟩) (fun ee q _ => ?_) (Nat.le_refl _) (Nat.le_refl _)
  refine ab_iconst (v := 2) d_Lexer_wordOf_86 (by decide) ?_
  exact ab_iret d_Lexer_wordOf_87 rfl (Nat.le_refl _) (Nat.le_refl _) ⟨by unfold lx_word; rw [q], rfl⟩
