def sp_Math_min2  (x : Int64) (y : Int64) : Int64 := if (0 : Int32) < (lg_cmp x y) then (y) else (x)
set_option maxRecDepth 20000 in
set_option maxHeartbeats 2000000 in
theorem c_Math_min2 {h : List ab_E}  {x y : Int64}   : ab_M y_Math_min2 { frames := 0, cells := 0, slots := 0, locals := 0 } [.long x, .long y] h (ab_A (some (.long (sp_Math_min2  x y))) (fun h1 => h = h1)) := by
  refine ab_of2 (lv := [some (.long x), none, some (.long y), none]) 0 rfl (by decide +kernel) (Nat.le_of_ble_eq_true rfl) ?_
  refine ab_lload_n d_Math_min2_0 rfl rfl ?_
  refine ab_lload_n d_Math_min2_1 rfl rfl ?_
  refine ab_lcmp d_Math_min2_2 ?_
  refine ab_if_gt (tgt := 10) d_Math_min2_3 (by decide) (fun q1 => ?_) (fun q1 => ?_)
  · refine ab_lload_n d_Math_min2_10 rfl rfl ?_
    exact ab_lret d_Math_min2_11 rfl (Nat.le_refl _) (Nat.le_refl _) (by unfold sp_Math_min2; rw [if_pos q1]; exact ⟨rfl, rfl⟩)
  · refine ab_lload_n d_Math_min2_6 rfl rfl ?_
    refine ab_goto (tgt := 11) d_Math_min2_7 (by decide) ?_
    exact ab_lret d_Math_min2_11 rfl (Nat.le_refl _) (Nat.le_refl _) (by unfold sp_Math_min2; rw [if_neg q1]; exact ⟨rfl, rfl⟩)
def sp_Math_max2  (x : Int64) (y : Int64) : Int64 := if (lg_cmp x y) < (0 : Int32) then (y) else (x)
set_option maxRecDepth 20000 in
set_option maxHeartbeats 2000000 in
theorem c_Math_max2 {h : List ab_E}  {x y : Int64}   : ab_M y_Math_max2 { frames := 0, cells := 0, slots := 0, locals := 0 } [.long x, .long y] h (ab_A (some (.long (sp_Math_max2  x y))) (fun h1 => h = h1)) := by
  refine ab_of2 (lv := [some (.long x), none, some (.long y), none]) 0 rfl (by decide +kernel) (Nat.le_of_ble_eq_true rfl) ?_
  refine ab_lload_n d_Math_max2_0 rfl rfl ?_
  refine ab_lload_n d_Math_max2_1 rfl rfl ?_
  refine ab_lcmp d_Math_max2_2 ?_
  refine ab_if_lt (tgt := 10) d_Math_max2_3 (by decide) (fun q1 => ?_) (fun q1 => ?_)
  · refine ab_lload_n d_Math_max2_10 rfl rfl ?_
    exact ab_lret d_Math_max2_11 rfl (Nat.le_refl _) (Nat.le_refl _) (by unfold sp_Math_max2; rw [if_pos q1]; exact ⟨rfl, rfl⟩)
  · refine ab_lload_n d_Math_max2_6 rfl rfl ?_
    refine ab_goto (tgt := 11) d_Math_max2_7 (by decide) ?_
    exact ab_lret d_Math_max2_11 rfl (Nat.le_refl _) (Nat.le_refl _) (by unfold sp_Math_max2; rw [if_neg q1]; exact ⟨rfl, rfl⟩)
def sp_n1  (bf : Int32 → Int32) (T : Nat) : Nat → Nat → Int64 → Nat × Int64
  | 0, i, wl => (i, wl)
  | n + 1, i, wl => if (nI T) ≤ (nI i) then (i, wl) else if (sp_digit (bf (nI i))) = (0 : Int32) then (i, wl) else sp_n1  bf T n (i + 1) (sp_Math_min2 (((wl * 10) + (((bf (nI i)) : Int32).toInt64)) - 48) 1099511627776)
termination_by n => n
theorem sp_n1_0  (bf : Int32 → Int32) (T : Nat) (i : Nat) (wl : Int64) : sp_n1  bf T 0 i wl = (i, wl) := by rw [sp_n1]
set_option maxRecDepth 20000 in
set_option maxHeartbeats 2000000 in
theorem l_n1 {h : List ab_E} {b : Nat} {s : Nat → Int32} {a : Nat → Nat → Int32} {bf : Int32 → Int32} {T : Nat} {Po : Outcome → List ab_E → Prop} {mc ms cells slots : Nat} (hl : at_Lexer h b s a) {f : Int32} (hT : s 1 = nI T) (hT2 : T ≤ 6000) (hb : ∀ i, lx_byte s a i = bf i) (hcl : cells ≤ ({ frames := 5, cells := 0, slots := 0, locals := 200 } : Room).cells) (hsl : slots ≤ ({ frames := 5, cells := 0, slots := 0, locals := 200 } : Room).slots) : ∀ (n i : Nat) (wl : Int64), T ≤ i + n → i ≤ T → (i ≤ (sp_n1  bf T n i wl).1 → (sp_n1  bf T n i wl).1 ≤ T → ab_V y_Lexer_behindNumber { frames := 5, cells := 0, slots := 0, locals := 200 } Po mc ms cells slots 56 [some (.ref b), some (.int f), some (.long ((sp_n1  bf T n i wl).2)), none, some (.int (nI ((sp_n1  bf T n i wl).1))), none, none, none, none, none, none, none, none] [] h) → ab_V y_Lexer_behindNumber { frames := 5, cells := 0, slots := 0, locals := 200 } Po mc ms cells slots 5 [some (.ref b), some (.int f), some (.long wl), none, some (.int (nI i)), none, none, none, none, none, none, none, none] [] h := by
  have hl0 := hl; obtain ⟨go, g0, g6, g7, g8, g9, g12⟩ := hl
  replace go : h[b]? = some (.inr (1, [.ref (b + 1), .int (nI T), .int (s 2), .int (s 3), .int (s 4), .int (s 5), .ref (b + 2), .ref (b + 3), .ref (b + 4), .ref (b + 5), .int (s 10), .int (s 11), .ref (b + 6)])) := (by rw [← hT]; exact go)
  intro n
  induction n with
  | zero =>
    intro i wl hif hiT hk
    refine ab_iload d_Lexer_behindNumber_5 rfl ?_
    refine ab_aload_n d_Lexer_behindNumber_7 rfl rfl rfl ?_
    refine ab_get (f := 1) d_Lexer_behindNumber_8 go rfl (by decide) (k1 95 rfl rfl) rfl ?_
    refine ab_icmp_ge (tgt := 56) d_Lexer_behindNumber_11 (by decide) (fun q1 => ?_) (fun q1 => ?_)
    · rw [sp_n1_0] at hk
      exact hk (Nat.le_refl _) hiT
    · exact absurd (nI_le (a := T) (b := i) (by omega) (by omega)) q1
  | succ n ih =>
    intro i wl hif hiT hk
    refine ab_iload d_Lexer_behindNumber_5 rfl ?_
    refine ab_aload_n d_Lexer_behindNumber_7 rfl rfl rfl ?_
    refine ab_get (f := 1) d_Lexer_behindNumber_8 go rfl (by decide) (k1 95 rfl rfl) rfl ?_
    refine ab_icmp_ge (tgt := 56) d_Lexer_behindNumber_11 (by decide) (fun q1 => ?_) (fun q1 => ?_)
    · have heq : (sp_n1  bf T (n + 1) i wl) = (i, wl) := by rw [sp_n1]; rw [if_pos q1]; try rfl
      refine ab_widen (cells' := cells) (slots' := slots) (by first | exact Nat.le_refl _ | (show _ ≤ _; omega)) (by first | exact Nat.le_refl _ | (show _ ≤ _; omega)) ?_
      rw [heq] at hk
      exact hk (by first | omega | (show _ ≤ _; omega)) (by first | omega | (show _ ≤ _; omega))
    · have hlt : i < T := Nat.lt_of_not_le (fun z => q1 (by first | exact nI_le z (by omega) | (rw [hT]; exact nI_le z (by omega))))
      refine ab_aload_n d_Lexer_behindNumber_14 rfl rfl rfl ?_
      refine ab_iload d_Lexer_behindNumber_15 rfl ?_
      refine ab_callV_a (As := [.int (nI i)]) (rest := []) d_Lexer_behindNumber_17 (c_bf hl0 (nI_pos (by omega)) hT hT2 hb) (ab_mkC s_Lexer_byteAt (Nat.le_of_ble_eq_true rfl) (Nat.le_of_ble_eq_true rfl) (by first | exact hcl | (show _ ≤ _; omega)) (by first | exact hsl | (show _ ≤ _; omega))) (k3 226 rfl rfl) i_Lexer_byteAt v_Lexer_byteAt go rfl rfl (Nat.le_of_ble_eq_true rfl) (fun h3 q2 => ?_)
      subst q2
      refine ab_callS_a (As := [.int (bf (nI i))]) (rest := []) d_Lexer_behindNumber_20 (c_Lexer_isDigit) (ab_mkC s_Lexer_isDigit (Nat.le_of_ble_eq_true rfl) (Nat.le_of_ble_eq_true rfl) (by first | exact hcl | (show _ ≤ _; omega)) (by first | exact hsl | (show _ ≤ _; omega))) (k4 1 rfl rfl) t_Lexer_isDigit rfl (Nat.le_of_ble_eq_true rfl) (fun h5 q4 => ?_)
      subst q4
      refine ab_if_eq (tgt := 56) d_Lexer_behindNumber_23 (by decide) (fun q6 => ?_) (fun q6 => ?_)
      · have heq : (sp_n1  bf T (n + 1) i wl) = (i, wl) := by rw [sp_n1]; rw [if_neg q1]; rw [if_pos q6]; try rfl
        refine ab_widen (cells' := cells) (slots' := slots) (by first | exact Nat.le_refl _ | (show _ ≤ _; omega)) (by first | exact Nat.le_refl _ | (show _ ≤ _; omega)) ?_
        rw [heq] at hk
        exact hk (by first | omega | (show _ ≤ _; omega)) (by first | omega | (show _ ≤ _; omega))
      · refine ab_lload_n d_Lexer_behindNumber_26 rfl rfl ?_
        refine ab_ldc2 d_Lexer_behindNumber_27 (k4 16 rfl rfl) ?_
        refine ab_lmul d_Lexer_behindNumber_30 ?_
        refine ab_aload_n d_Lexer_behindNumber_31 rfl rfl rfl ?_
        refine ab_iload d_Lexer_behindNumber_32 rfl ?_
        refine ab_callV_a (As := [.int (nI i)]) (rest := [.long (wl * 10)]) d_Lexer_behindNumber_34 (c_bf hl0 (nI_pos (by omega)) hT hT2 hb) (ab_mkC s_Lexer_byteAt (Nat.le_of_ble_eq_true rfl) (Nat.le_of_ble_eq_true rfl) (by first | exact hcl | (show _ ≤ _; omega)) (by first | exact hsl | (show _ ≤ _; omega))) (k3 226 rfl rfl) i_Lexer_byteAt v_Lexer_byteAt go rfl rfl (Nat.le_of_ble_eq_true rfl) (fun h8 q7 => ?_)
        subst q7
        refine ab_i2l d_Lexer_behindNumber_37 ?_
        refine ab_ladd d_Lexer_behindNumber_38 ?_
        refine ab_ldc2 d_Lexer_behindNumber_39 (k4 17 rfl rfl) ?_
        refine ab_lsub d_Lexer_behindNumber_42 ?_
        refine ab_ldc2 d_Lexer_behindNumber_43 (k4 18 rfl rfl) ?_
        refine ab_callS_a (As := [.long (((wl * 10) + (((bf (nI i)) : Int32).toInt64)) - 48), .long 1099511627776]) (rest := []) d_Lexer_behindNumber_46 (c_Math_min2) (ab_mkC s_Math_min2 (Nat.le_of_ble_eq_true rfl) (Nat.le_of_ble_eq_true rfl) (by first | exact hcl | (show _ ≤ _; omega)) (by first | exact hsl | (show _ ≤ _; omega))) (k4 19 rfl rfl) t_Math_min2 rfl (Nat.le_of_ble_eq_true rfl) (fun h10 q9 => ?_)
        subst q9
        refine ab_topl (fun x11 ex11 => ?_)
        refine ab_lstore_n (lv' := [some (.ref b), some (.int f), some (.long x11), none, some (.int (nI i)), none, none, none, none, none, none, none, none]) d_Lexer_behindNumber_49 rfl (by decide) rfl ?_
        obtain ⟨x12, ex12⟩ : ∃ q : Int32, q = nI i + 1 := ⟨_, rfl⟩
        refine ab_iinc (v := x12) (lv' := [some (.ref b), some (.int f), some (.long x11), none, some (.int x12), none, none, none, none, none, none, none, none]) d_Lexer_behindNumber_50 rfl (by rw [ex12]; rfl) (by decide) rfl ?_
        refine ab_goto (tgt := 5) d_Lexer_behindNumber_53 (by decide) ?_
        subst ex11
        subst ex12
        have heq : (sp_n1  bf T (n + 1) i wl) = (sp_n1  bf T n (i + 1) (sp_Math_min2 (((wl * 10) + (((bf (nI i)) : Int32).toInt64)) - 48) 1099511627776)) := by rw [sp_n1]; rw [if_neg q1]; rw [if_neg q6]; try rfl
        rw [nI_1]
        refine ab_widen (cells' := cells) (slots' := slots) (by first | exact Nat.le_refl _ | (show _ ≤ _; omega)) (by first | exact Nat.le_refl _ | (show _ ≤ _; omega)) ?_
        rw [heq] at hk
        exact ih (i + 1) (sp_Math_min2 (((wl * 10) + (((bf (nI i)) : Int32).toInt64)) - 48) 1099511627776) (by omega) (by omega) (fun q1 q2 => hk (by omega) q2)
def sp_n2  (bf : Int32 → Int32) (T : Nat) : Nat → Nat → Int64 → Int64 → Int32 → Nat × Int64 × Int64 × Int32
  | 0, i, pt, sc, dg => (i, pt, sc, dg)
  | n + 1, i, pt, sc, dg => if (nI T) ≤ (nI i) then (i, pt, sc, dg) else if (sp_digit (bf (nI i))) = (0 : Int32) then (i, pt, sc, dg) else if (4 : Int32) < (dg + 1) then sp_n2  bf T n (i + 1) pt sc (dg + 1) else sp_n2  bf T n (i + 1) (((pt * 10) + (((bf (nI i)) : Int32).toInt64)) - 48) (sc * 10) (dg + 1)
termination_by n => n
theorem sp_n2_0  (bf : Int32 → Int32) (T : Nat) (i : Nat) (pt : Int64) (sc : Int64) (dg : Int32) : sp_n2  bf T 0 i pt sc dg = (i, pt, sc, dg) := by rw [sp_n2]
set_option maxRecDepth 20000 in
set_option maxHeartbeats 2000000 in
theorem l_n2 {h : List ab_E} {b : Nat} {s : Nat → Int32} {a : Nat → Nat → Int32} {bf : Int32 → Int32} {T : Nat} {Po : Outcome → List ab_E → Prop} {mc ms cells slots : Nat} (hl : at_Lexer h b s a) {f : Int32} {wl : Int64} (hT : s 1 = nI T) (hT2 : T ≤ 6000) (hb : ∀ i, lx_byte s a i = bf i) (hcl : cells ≤ ({ frames := 5, cells := 0, slots := 0, locals := 200 } : Room).cells) (hsl : slots ≤ ({ frames := 5, cells := 0, slots := 0, locals := 200 } : Room).slots) : ∀ (n i : Nat) (pt : Int64) (sc : Int64) (dg : Int32), T ≤ i + n → i ≤ T → (i ≤ (sp_n2  bf T n i pt sc dg).1 → (sp_n2  bf T n i pt sc dg).1 ≤ T → ab_V y_Lexer_behindNumber { frames := 5, cells := 0, slots := 0, locals := 200 } Po mc ms cells slots 194 [some (.ref b), some (.int f), some (.long wl), none, some (.int (nI ((sp_n2  bf T n i pt sc dg).1))), some (.long ((sp_n2  bf T n i pt sc dg).2.1)), none, some (.long ((sp_n2  bf T n i pt sc dg).2.2.1)), none, some (.int ((sp_n2  bf T n i pt sc dg).2.2.2)), none, none, none] [] h) → ab_V y_Lexer_behindNumber { frames := 5, cells := 0, slots := 0, locals := 200 } Po mc ms cells slots 130 [some (.ref b), some (.int f), some (.long wl), none, some (.int (nI i)), some (.long pt), none, some (.long sc), none, some (.int dg), none, none, none] [] h := by
  have hl0 := hl; obtain ⟨go, g0, g6, g7, g8, g9, g12⟩ := hl
  replace go : h[b]? = some (.inr (1, [.ref (b + 1), .int (nI T), .int (s 2), .int (s 3), .int (s 4), .int (s 5), .ref (b + 2), .ref (b + 3), .ref (b + 4), .ref (b + 5), .int (s 10), .int (s 11), .ref (b + 6)])) := (by rw [← hT]; exact go)
  intro n
  induction n with
  | zero =>
    intro i pt sc dg hif hiT hk
    refine ab_iload d_Lexer_behindNumber_130 rfl ?_
    refine ab_aload_n d_Lexer_behindNumber_132 rfl rfl rfl ?_
    refine ab_get (f := 1) d_Lexer_behindNumber_133 go rfl (by decide) (k1 95 rfl rfl) rfl ?_
    refine ab_icmp_ge (tgt := 194) d_Lexer_behindNumber_136 (by decide) (fun q1 => ?_) (fun q1 => ?_)
    · rw [sp_n2_0] at hk
      exact hk (Nat.le_refl _) hiT
    · exact absurd (nI_le (a := T) (b := i) (by omega) (by omega)) q1
  | succ n ih =>
    intro i pt sc dg hif hiT hk
    refine ab_iload d_Lexer_behindNumber_130 rfl ?_
    refine ab_aload_n d_Lexer_behindNumber_132 rfl rfl rfl ?_
    refine ab_get (f := 1) d_Lexer_behindNumber_133 go rfl (by decide) (k1 95 rfl rfl) rfl ?_
    refine ab_icmp_ge (tgt := 194) d_Lexer_behindNumber_136 (by decide) (fun q1 => ?_) (fun q1 => ?_)
    · have heq : (sp_n2  bf T (n + 1) i pt sc dg) = (i, pt, sc, dg) := by rw [sp_n2]; rw [if_pos q1]; try rfl
      refine ab_widen (cells' := cells) (slots' := slots) (by first | exact Nat.le_refl _ | (show _ ≤ _; omega)) (by first | exact Nat.le_refl _ | (show _ ≤ _; omega)) ?_
      rw [heq] at hk
      exact hk (by first | omega | (show _ ≤ _; omega)) (by first | omega | (show _ ≤ _; omega))
    · have hlt : i < T := Nat.lt_of_not_le (fun z => q1 (by first | exact nI_le z (by omega) | (rw [hT]; exact nI_le z (by omega))))
      refine ab_aload_n d_Lexer_behindNumber_139 rfl rfl rfl ?_
      refine ab_iload d_Lexer_behindNumber_140 rfl ?_
      refine ab_callV_a (As := [.int (nI i)]) (rest := []) d_Lexer_behindNumber_142 (c_bf hl0 (nI_pos (by omega)) hT hT2 hb) (ab_mkC s_Lexer_byteAt (Nat.le_of_ble_eq_true rfl) (Nat.le_of_ble_eq_true rfl) (by first | exact hcl | (show _ ≤ _; omega)) (by first | exact hsl | (show _ ≤ _; omega))) (k3 226 rfl rfl) i_Lexer_byteAt v_Lexer_byteAt go rfl rfl (Nat.le_of_ble_eq_true rfl) (fun h3 q2 => ?_)
      subst q2
      refine ab_callS_a (As := [.int (bf (nI i))]) (rest := []) d_Lexer_behindNumber_145 (c_Lexer_isDigit) (ab_mkC s_Lexer_isDigit (Nat.le_of_ble_eq_true rfl) (Nat.le_of_ble_eq_true rfl) (by first | exact hcl | (show _ ≤ _; omega)) (by first | exact hsl | (show _ ≤ _; omega))) (k4 1 rfl rfl) t_Lexer_isDigit rfl (Nat.le_of_ble_eq_true rfl) (fun h5 q4 => ?_)
      subst q4
      refine ab_if_eq (tgt := 194) d_Lexer_behindNumber_148 (by decide) (fun q6 => ?_) (fun q6 => ?_)
      · have heq : (sp_n2  bf T (n + 1) i pt sc dg) = (i, pt, sc, dg) := by rw [sp_n2]; rw [if_neg q1]; rw [if_pos q6]; try rfl
        refine ab_widen (cells' := cells) (slots' := slots) (by first | exact Nat.le_refl _ | (show _ ≤ _; omega)) (by first | exact Nat.le_refl _ | (show _ ≤ _; omega)) ?_
        rw [heq] at hk
        exact hk (by first | omega | (show _ ≤ _; omega)) (by first | omega | (show _ ≤ _; omega))
      · obtain ⟨x7, ex7⟩ : ∃ q : Int32, q = dg + 1 := ⟨_, rfl⟩
        refine ab_iinc (v := x7) (lv' := [some (.ref b), some (.int f), some (.long wl), none, some (.int (nI i)), some (.long pt), none, some (.long sc), none, some (.int x7), none, none, none]) d_Lexer_behindNumber_151 rfl (by rw [ex7]; rfl) (by decide) rfl ?_
        refine ab_iload d_Lexer_behindNumber_154 rfl ?_
        refine ab_iconst (v := 4) d_Lexer_behindNumber_156 (by decide) ?_
        refine ab_icmp_gt (tgt := 188) d_Lexer_behindNumber_157 (by decide) (fun q8 => ?_) (fun q8 => ?_)
        · obtain ⟨x9, ex9⟩ : ∃ q : Int32, q = nI i + 1 := ⟨_, rfl⟩
          refine ab_iinc (v := x9) (lv' := [some (.ref b), some (.int f), some (.long wl), none, some (.int x9), some (.long pt), none, some (.long sc), none, some (.int x7), none, none, none]) d_Lexer_behindNumber_188 rfl (by rw [ex9]; rfl) (by decide) rfl ?_
          refine ab_goto (tgt := 130) d_Lexer_behindNumber_191 (by decide) ?_
          subst ex7
          subst ex9
          have heq : (sp_n2  bf T (n + 1) i pt sc dg) = (sp_n2  bf T n (i + 1) pt sc (dg + 1)) := by rw [sp_n2]; rw [if_neg q1]; rw [if_neg q6]; rw [if_pos q8]; try rfl
          rw [nI_1]
          refine ab_widen (cells' := cells) (slots' := slots) (by first | exact Nat.le_refl _ | (show _ ≤ _; omega)) (by first | exact Nat.le_refl _ | (show _ ≤ _; omega)) ?_
          rw [heq] at hk
          exact ih (i + 1) pt sc (dg + 1) (by omega) (by omega) (fun q1 q2 => hk (by omega) q2)
        · refine ab_lload d_Lexer_behindNumber_160 rfl ?_
          refine ab_ldc2 d_Lexer_behindNumber_162 (k4 16 rfl rfl) ?_
          refine ab_lmul d_Lexer_behindNumber_165 ?_
          refine ab_aload_n d_Lexer_behindNumber_166 rfl rfl rfl ?_
          refine ab_iload d_Lexer_behindNumber_167 rfl ?_
          refine ab_callV_a (As := [.int (nI i)]) (rest := [.long (pt * 10)]) d_Lexer_behindNumber_169 (c_bf hl0 (nI_pos (by omega)) hT hT2 hb) (ab_mkC s_Lexer_byteAt (Nat.le_of_ble_eq_true rfl) (Nat.le_of_ble_eq_true rfl) (by first | exact hcl | (show _ ≤ _; omega)) (by first | exact hsl | (show _ ≤ _; omega))) (k3 226 rfl rfl) i_Lexer_byteAt v_Lexer_byteAt go rfl rfl (Nat.le_of_ble_eq_true rfl) (fun h11 q10 => ?_)
          subst q10
          refine ab_i2l d_Lexer_behindNumber_172 ?_
          refine ab_ladd d_Lexer_behindNumber_173 ?_
          refine ab_ldc2 d_Lexer_behindNumber_174 (k4 17 rfl rfl) ?_
          refine ab_lsub d_Lexer_behindNumber_177 ?_
          refine ab_topl (fun x12 ex12 => ?_)
          refine ab_lstore (lv' := [some (.ref b), some (.int f), some (.long wl), none, some (.int (nI i)), some (.long x12), none, some (.long sc), none, some (.int x7), none, none, none]) d_Lexer_behindNumber_178 (by decide) rfl ?_
          refine ab_lload d_Lexer_behindNumber_180 rfl ?_
          refine ab_ldc2 d_Lexer_behindNumber_182 (k4 16 rfl rfl) ?_
          refine ab_lmul d_Lexer_behindNumber_185 ?_
          refine ab_lstore (lv' := [some (.ref b), some (.int f), some (.long wl), none, some (.int (nI i)), some (.long x12), none, some (.long (sc * 10)), none, some (.int x7), none, none, none]) d_Lexer_behindNumber_186 (by decide) rfl ?_
          obtain ⟨x13, ex13⟩ : ∃ q : Int32, q = nI i + 1 := ⟨_, rfl⟩
          refine ab_iinc (v := x13) (lv' := [some (.ref b), some (.int f), some (.long wl), none, some (.int x13), some (.long x12), none, some (.long (sc * 10)), none, some (.int x7), none, none, none]) d_Lexer_behindNumber_188 rfl (by rw [ex13]; rfl) (by decide) rfl ?_
          refine ab_goto (tgt := 130) d_Lexer_behindNumber_191 (by decide) ?_
          subst ex7
          subst ex12
          subst ex13
          have heq : (sp_n2  bf T (n + 1) i pt sc dg) = (sp_n2  bf T n (i + 1) (((pt * 10) + (((bf (nI i)) : Int32).toInt64)) - 48) (sc * 10) (dg + 1)) := by rw [sp_n2]; rw [if_neg q1]; rw [if_neg q6]; rw [if_neg q8]; try rfl
          rw [nI_1]
          refine ab_widen (cells' := cells) (slots' := slots) (by first | exact Nat.le_refl _ | (show _ ≤ _; omega)) (by first | exact Nat.le_refl _ | (show _ ≤ _; omega)) ?_
          rw [heq] at hk
          exact ih (i + 1) (((pt * 10) + (((bf (nI i)) : Int32).toInt64)) - 48) (sc * 10) (dg + 1) (by omega) (by omega) (fun q1 q2 => hk (by omega) q2)
def lx_bn (bf : Int32 → Int32) (T f : Nat) : Nat := sp_bn bf T (T - f) f
def lx_gt12 (k : Nat) : Int32 := if nI k ≤ 12 then 0 else 1
def lx_n1 (bf : Int32 → Int32) (T f : Nat) : Nat × Int64 := sp_n1 bf T (T - f) f 0
def lx_n2 (bf : Int32 → Int32) (T j : Nat) : Nat × Int64 × Int64 × Int32 := sp_n2 bf T (T - j) j 0 1 0
theorem max2_ne (z : Int64) : ¬ sp_Math_max2 1 z = 0 := by
  unfold sp_Math_max2
  split
  · rename_i h
    intro e
    rw [e] at h
    exact absurd h (by decide)
  · decide
theorem digit_lt {s : Nat → Int32} {a : Nat → Nat → Int32} {bf : Int32 → Int32} {T i : Nat} (hT : s 1 = nI T) (hb : ∀ i, lx_byte s a i = bf i) (hi : i < 2 ^ 31) (h : ¬ sp_digit (bf (nI i)) = 0) : i < T := by
  refine Nat.lt_of_not_le (fun z => h ?_)
  rw [bf_out hT hb hi z]
  decide
set_option maxRecDepth 20000 in
set_option maxHeartbeats 2000000 in
theorem c_Lexer_behindName {h : List ab_E} {b : Nat} {s : Nat → Int32} {a : Nat → Nat → Int32} {bf : Int32 → Int32} {T f : Nat} (hl : at_Lexer h b s a) (hT : s 1 = nI T) (hT2 : T ≤ 6000) (hb : ∀ i, lx_byte s a i = bf i) (h12 : a 12 = kept0) (hf : f < T) (hc : ¬ s 10 < 0) : ab_M y_Lexer_behindName { frames := 5, cells := 0, slots := 0, locals := 200 } [.ref b, .int (nI f)] h (ab_A (some (.int (nI (lx_bn bf T f)))) (fun h1 => at_Lexer h1 b (sp_note_s s) (sp_note_a s a (lx_word bf f (lx_bn bf T f - f)) (nI f) (nI (lx_bn bf T f - f)) (lx_gt12 (lx_bn bf T f - f))) ∧ ab_fr (in_Lexer b) h h1)) := by
  have hl0 := hl; obtain ⟨go, g0, g6, g7, g8, g9, g12⟩ := hl
  replace go : h[b]? = some (.inr (1, [.ref (b + 1), .int (nI T), .int (s 2), .int (s 3), .int (s 4), .int (s 5), .ref (b + 2), .ref (b + 3), .ref (b + 4), .ref (b + 5), .int (s 10), .int (s 11), .ref (b + 6)])) := (by rw [← hT]; exact go)
  refine ab_of2 (lv := [some (.ref b), some (.int (nI f)), none, none]) 2 rfl rfl (Nat.le_of_ble_eq_true rfl) ?_
  refine ab_iload_n d_Lexer_behindName_0 rfl rfl ?_
  refine ab_istore_n (lv' := [some (.ref b), some (.int (nI f)), some (.int (nI f)), none]) d_Lexer_behindName_1 rfl (by decide) rfl ?_
  refine l_bn hl0 hT hT2 hb (by first | decide | exact Nat.le_refl _) (by first | decide | exact Nat.le_refl _) (T - f) f (by omega) (by omega) (fun g1 g2 => ?_)
  replace g1 : f ≤ lx_bn bf T f := g1
  replace g2 : lx_bn bf T f ≤ T := g2
  show ab_V _ _ _ _ _ _ _ _ [some (.ref b), some (.int (nI f)), some (.int (nI (lx_bn bf T f))), none] _ _
  refine ab_iload_n d_Lexer_behindName_38 rfl rfl ?_
  refine ab_iload_n d_Lexer_behindName_39 rfl rfl ?_
  refine ab_isub d_Lexer_behindName_40 ?_
  refine ab_topi (fun x3 ex3 => ?_)
  obtain rfl : x3 = nI (lx_bn bf T f - f) := ex3.trans (nI_sub1 (by assumption))
  clear ex3
  refine ab_istore_n (lv' := [some (.ref b), some (.int (nI f)), some (.int (nI (lx_bn bf T f))), some (.int (nI (lx_bn bf T f - f)))]) d_Lexer_behindName_41 rfl (by decide) rfl ?_
  refine ab_aload_n d_Lexer_behindName_42 rfl rfl rfl ?_
  refine ab_aload_n d_Lexer_behindName_43 rfl rfl rfl ?_
  refine ab_iload_n d_Lexer_behindName_44 rfl rfl ?_
  refine ab_iload_n d_Lexer_behindName_45 rfl rfl ?_
  refine ab_callV_a (As := [.int (nI f), .int (nI (lx_bn bf T f - f))]) (rest := [.ref b]) d_Lexer_behindName_46 (c_Lexer_wordOf hl0 hT hT2 hb h12 (by omega) (by omega)) (ab_mkC s_Lexer_wordOf (Nat.le_of_ble_eq_true rfl) (Nat.le_of_ble_eq_true rfl) (by decide) (by decide)) (k4 4 rfl rfl) i_Lexer_wordOf v_Lexer_wordOf go rfl rfl (Nat.le_of_ble_eq_true rfl) (fun h5 q4 => ?_)
  subst q4
  refine ab_iload_n d_Lexer_behindName_49 rfl rfl ?_
  refine ab_iload_n d_Lexer_behindName_50 rfl rfl ?_
  refine ab_iload_n d_Lexer_behindName_51 rfl rfl ?_
  refine ab_bipush (v := 12) d_Lexer_behindName_52 (by decide) ?_
  refine ab_icmp_le (tgt := 61) d_Lexer_behindName_54 (by decide) (fun q6 => ?_) (fun q6 => ?_)
  · refine ab_iconst (v := 0) d_Lexer_behindName_61 (by decide) ?_
    refine ab_callV_v (As := [.int (lx_word bf f (lx_bn bf T f - f)), .int (nI f), .int (nI (lx_bn bf T f - f)), .int 0]) (rest := []) d_Lexer_behindName_62 (c_Lexer_note hl0 hc) (ab_mkC s_Lexer_note (Nat.le_of_ble_eq_true rfl) (Nat.le_of_ble_eq_true rfl) (by decide) (by decide)) (k4 8 rfl rfl) i_Lexer_note v_Lexer_note go rfl rfl (Nat.le_of_ble_eq_true rfl) (fun h7 qn8 => ?_)
    refine ab_iload_n d_Lexer_behindName_65 rfl rfl ?_
    exact ab_iret d_Lexer_behindName_66 rfl (Nat.le_refl _) (Nat.le_refl _) (by exact ⟨rfl, (by have z := qn8; unfold lx_gt12; rw [if_pos q6]; exact z)⟩)
  · refine ab_iconst (v := 1) d_Lexer_behindName_57 (by decide) ?_
    refine ab_goto (tgt := 62) d_Lexer_behindName_58 (by decide) ?_
    refine ab_callV_v (As := [.int (lx_word bf f (lx_bn bf T f - f)), .int (nI f), .int (nI (lx_bn bf T f - f)), .int 1]) (rest := []) d_Lexer_behindName_62 (c_Lexer_note hl0 hc) (ab_mkC s_Lexer_note (Nat.le_of_ble_eq_true rfl) (Nat.le_of_ble_eq_true rfl) (by decide) (by decide)) (k4 8 rfl rfl) i_Lexer_note v_Lexer_note go rfl rfl (Nat.le_of_ble_eq_true rfl) (fun h9 qn10 => ?_)
    refine ab_iload_n d_Lexer_behindName_65 rfl rfl ?_
    exact ab_iret d_Lexer_behindName_66 rfl (Nat.le_refl _) (Nat.le_refl _) (by exact ⟨rfl, (by have z := qn10; unfold lx_gt12; rw [if_neg q6]; exact z)⟩)
def lx_num (bf : Int32 → Int32) (T f : Nat) : Nat × Int32 × Int32 × Int32 := if ¬ (bf (nI (lx_n1 bf T f).1)) = (46 : Int32) then if (lg_cmp ((lx_n1 bf T f).2) 2147483647) ≤ (0 : Int32) then if (0 : Int32) = (0 : Int32) then ((lx_n1 bf T f).1, 3, (((lx_n1 bf T f).2) : Int64).toInt32, 0) else ((lx_n1 bf T f).1, 3, 0, 0) else if (1 : Int32) = (0 : Int32) then ((lx_n1 bf T f).1, 3, (((lx_n1 bf T f).2) : Int64).toInt32, 1) else ((lx_n1 bf T f).1, 3, 0, 1) else if ¬ (sp_digit (bf (nI ((lx_n1 bf T f).1 + 1)))) = (0 : Int32) then if (0 : Int32) < (lg_cmp ((lx_n1 bf T f).2) 32767) then if (1 : Int32) = (0 : Int32) then ((lx_n2 bf T ((lx_n1 bf T f).1 + 1)).1, 4, (((((lx_n1 bf T f).2) <<< ((16 : Int32).toInt64 &&& 63)) + (((((lx_n2 bf T ((lx_n1 bf T f).1 + 1)).2.1) * 65536) + (((lx_n2 bf T ((lx_n1 bf T f).1 + 1)).2.2.1) / 2)) / (sp_Math_max2 1 ((lx_n2 bf T ((lx_n1 bf T f).1 + 1)).2.2.1)))) : Int64).toInt32, 1) else ((lx_n2 bf T ((lx_n1 bf T f).1 + 1)).1, 4, 0, 1) else if ((lx_n2 bf T ((lx_n1 bf T f).1 + 1)).2.2.2) ≤ (4 : Int32) then if (0 : Int32) = (0 : Int32) then ((lx_n2 bf T ((lx_n1 bf T f).1 + 1)).1, 4, (((((lx_n1 bf T f).2) <<< ((16 : Int32).toInt64 &&& 63)) + (((((lx_n2 bf T ((lx_n1 bf T f).1 + 1)).2.1) * 65536) + (((lx_n2 bf T ((lx_n1 bf T f).1 + 1)).2.2.1) / 2)) / (sp_Math_max2 1 ((lx_n2 bf T ((lx_n1 bf T f).1 + 1)).2.2.1)))) : Int64).toInt32, 0) else ((lx_n2 bf T ((lx_n1 bf T f).1 + 1)).1, 4, 0, 0) else if (1 : Int32) = (0 : Int32) then ((lx_n2 bf T ((lx_n1 bf T f).1 + 1)).1, 4, (((((lx_n1 bf T f).2) <<< ((16 : Int32).toInt64 &&& 63)) + (((((lx_n2 bf T ((lx_n1 bf T f).1 + 1)).2.1) * 65536) + (((lx_n2 bf T ((lx_n1 bf T f).1 + 1)).2.2.1) / 2)) / (sp_Math_max2 1 ((lx_n2 bf T ((lx_n1 bf T f).1 + 1)).2.2.1)))) : Int64).toInt32, 1) else ((lx_n2 bf T ((lx_n1 bf T f).1 + 1)).1, 4, 0, 1) else if (lg_cmp ((lx_n1 bf T f).2) 2147483647) ≤ (0 : Int32) then if (0 : Int32) = (0 : Int32) then ((lx_n1 bf T f).1, 3, (((lx_n1 bf T f).2) : Int64).toInt32, 0) else ((lx_n1 bf T f).1, 3, 0, 0) else if (1 : Int32) = (0 : Int32) then ((lx_n1 bf T f).1, 3, (((lx_n1 bf T f).2) : Int64).toInt32, 1) else ((lx_n1 bf T f).1, 3, 0, 1)
set_option maxRecDepth 20000 in
set_option maxHeartbeats 2000000 in
theorem c_Lexer_behindNumber {h : List ab_E} {b : Nat} {s : Nat → Int32} {a : Nat → Nat → Int32} {bf : Int32 → Int32} {T f : Nat} (hl : at_Lexer h b s a) (hT : s 1 = nI T) (hT2 : T ≤ 6000) (hb : ∀ i, lx_byte s a i = bf i) (hf : f < T) (hc : ¬ s 10 < 0) : ab_M y_Lexer_behindNumber { frames := 5, cells := 0, slots := 0, locals := 200 } [.ref b, .int (nI f)] h (ab_A (some (.int (nI (lx_num bf T f).1))) (fun h1 => at_Lexer h1 b (sp_note_s s) (sp_note_a s a ((lx_num bf T f).2.1) (nI f) ((lx_num bf T f).2.2.1) ((lx_num bf T f).2.2.2)) ∧ ab_fr (in_Lexer b) h h1)) := by
  have hl0 := hl; obtain ⟨go, g0, g6, g7, g8, g9, g12⟩ := hl
  replace go : h[b]? = some (.inr (1, [.ref (b + 1), .int (nI T), .int (s 2), .int (s 3), .int (s 4), .int (s 5), .ref (b + 2), .ref (b + 3), .ref (b + 4), .ref (b + 5), .int (s 10), .int (s 11), .ref (b + 6)])) := (by rw [← hT]; exact go)
  refine ab_of2 (lv := [some (.ref b), some (.int (nI f)), none, none, none, none, none, none, none, none, none, none, none]) 11 rfl rfl (Nat.le_of_ble_eq_true rfl) ?_
  refine ab_lconst (v := 0) d_Lexer_behindNumber_0 (by decide) ?_
  refine ab_lstore_n (lv' := [some (.ref b), some (.int (nI f)), some (.long 0), none, none, none, none, none, none, none, none, none, none]) d_Lexer_behindNumber_1 rfl (by decide) rfl ?_
  refine ab_iload_n d_Lexer_behindNumber_2 rfl rfl ?_
  refine ab_istore (lv' := [some (.ref b), some (.int (nI f)), some (.long 0), none, some (.int (nI f)), none, none, none, none, none, none, none, none]) d_Lexer_behindNumber_3 (by decide) rfl ?_
  refine l_n1 hl0 hT hT2 hb (by first | decide | exact Nat.le_refl _) (by first | decide | exact Nat.le_refl _) (T - f) f 0 (by omega) (by omega) (fun g1 g2 => ?_)
  replace g1 : f ≤ (lx_n1 bf T f).1 := g1
  replace g2 : (lx_n1 bf T f).1 ≤ T := g2
  show ab_V _ _ _ _ _ _ _ _ [some (.ref b), some (.int (nI f)), some (.long ((lx_n1 bf T f).2)), none, some (.int (nI (lx_n1 bf T f).1)), none, none, none, none, none, none, none, none] _ _
  refine ab_aload_n d_Lexer_behindNumber_56 rfl rfl rfl ?_
  refine ab_iload d_Lexer_behindNumber_57 rfl ?_
  refine ab_callV_a (As := [.int (nI (lx_n1 bf T f).1)]) (rest := []) d_Lexer_behindNumber_59 (c_bf hl0 (nI_pos (by omega)) hT hT2 hb) (ab_mkC s_Lexer_byteAt (Nat.le_of_ble_eq_true rfl) (Nat.le_of_ble_eq_true rfl) (by decide) (by decide)) (k3 226 rfl rfl) i_Lexer_byteAt v_Lexer_byteAt go rfl rfl (Nat.le_of_ble_eq_true rfl) (fun h4 q3 => ?_)
  subst q3
  refine ab_bipush (v := 46) d_Lexer_behindNumber_62 (by decide) ?_
  refine ab_icmp_ne (tgt := 81) d_Lexer_behindNumber_64 (by decide) (fun q5 => ?_) (fun q5 => ?_)
  · refine ab_lload_n d_Lexer_behindNumber_81 rfl rfl ?_
    refine ab_ldc2 d_Lexer_behindNumber_82 (k4 22 rfl rfl) ?_
    refine ab_lcmp d_Lexer_behindNumber_85 ?_
    refine ab_if_le (tgt := 93) d_Lexer_behindNumber_86 (by decide) (fun q6 => ?_) (fun q6 => ?_)
    · refine ab_iconst (v := 0) d_Lexer_behindNumber_93 (by decide) ?_
      refine ab_istore (lv' := [some (.ref b), some (.int (nI f)), some (.long ((lx_n1 bf T f).2)), none, some (.int (nI (lx_n1 bf T f).1)), some (.int 0), none, none, none, none, none, none, none]) d_Lexer_behindNumber_94 (by decide) rfl ?_
      refine ab_aload_n d_Lexer_behindNumber_96 rfl rfl rfl ?_
      refine ab_iconst (v := 3) d_Lexer_behindNumber_97 (by decide) ?_
      refine ab_iload_n d_Lexer_behindNumber_98 rfl rfl ?_
      refine ab_iload d_Lexer_behindNumber_99 rfl ?_
      refine ab_if_eq (tgt := 108) d_Lexer_behindNumber_101 (by decide) (fun q7 => ?_) (fun q7 => ?_)
      · refine ab_lload_n d_Lexer_behindNumber_108 rfl rfl ?_
        refine ab_l2i d_Lexer_behindNumber_109 ?_
        refine ab_iload d_Lexer_behindNumber_110 rfl ?_
        refine ab_callV_v (As := [.int 3, .int (nI f), .int ((((lx_n1 bf T f).2) : Int64).toInt32), .int 0]) (rest := []) d_Lexer_behindNumber_112 (c_Lexer_note hl0 hc) (ab_mkC s_Lexer_note (Nat.le_of_ble_eq_true rfl) (Nat.le_of_ble_eq_true rfl) (by decide) (by decide)) (k4 8 rfl rfl) i_Lexer_note v_Lexer_note go rfl rfl (Nat.le_of_ble_eq_true rfl) (fun h8 qn9 => ?_)
        refine ab_iload d_Lexer_behindNumber_115 rfl ?_
        exact ab_iret d_Lexer_behindNumber_117 rfl (Nat.le_refl _) (Nat.le_refl _) (by have hsp : lx_num bf T f = ((lx_n1 bf T f).1, 3, (((lx_n1 bf T f).2) : Int64).toInt32, 0) := (by unfold lx_num; rw [if_pos q5]; rw [if_pos q6]; rw [if_pos q7]; try rfl); rw [hsp]; exact ⟨rfl, qn9⟩)
      · refine ab_iconst (v := 0) d_Lexer_behindNumber_104 (by decide) ?_
        refine ab_goto (tgt := 110) d_Lexer_behindNumber_105 (by decide) ?_
        refine ab_iload d_Lexer_behindNumber_110 rfl ?_
        refine ab_callV_v (As := [.int 3, .int (nI f), .int 0, .int 0]) (rest := []) d_Lexer_behindNumber_112 (c_Lexer_note hl0 hc) (ab_mkC s_Lexer_note (Nat.le_of_ble_eq_true rfl) (Nat.le_of_ble_eq_true rfl) (by decide) (by decide)) (k4 8 rfl rfl) i_Lexer_note v_Lexer_note go rfl rfl (Nat.le_of_ble_eq_true rfl) (fun h10 qn11 => ?_)
        refine ab_iload d_Lexer_behindNumber_115 rfl ?_
        exact ab_iret d_Lexer_behindNumber_117 rfl (Nat.le_refl _) (Nat.le_refl _) (by have hsp : lx_num bf T f = ((lx_n1 bf T f).1, 3, 0, 0) := (by unfold lx_num; rw [if_pos q5]; rw [if_pos q6]; rw [if_neg q7]; try rfl); rw [hsp]; exact ⟨rfl, qn11⟩)
    · refine ab_iconst (v := 1) d_Lexer_behindNumber_89 (by decide) ?_
      refine ab_goto (tgt := 94) d_Lexer_behindNumber_90 (by decide) ?_
      refine ab_istore (lv' := [some (.ref b), some (.int (nI f)), some (.long ((lx_n1 bf T f).2)), none, some (.int (nI (lx_n1 bf T f).1)), some (.int 1), none, none, none, none, none, none, none]) d_Lexer_behindNumber_94 (by decide) rfl ?_
      refine ab_aload_n d_Lexer_behindNumber_96 rfl rfl rfl ?_
      refine ab_iconst (v := 3) d_Lexer_behindNumber_97 (by decide) ?_
      refine ab_iload_n d_Lexer_behindNumber_98 rfl rfl ?_
      refine ab_iload d_Lexer_behindNumber_99 rfl ?_
      refine ab_if_eq (tgt := 108) d_Lexer_behindNumber_101 (by decide) (fun q12 => ?_) (fun q12 => ?_)
      · refine ab_lload_n d_Lexer_behindNumber_108 rfl rfl ?_
        refine ab_l2i d_Lexer_behindNumber_109 ?_
        refine ab_iload d_Lexer_behindNumber_110 rfl ?_
        refine ab_callV_v (As := [.int 3, .int (nI f), .int ((((lx_n1 bf T f).2) : Int64).toInt32), .int 1]) (rest := []) d_Lexer_behindNumber_112 (c_Lexer_note hl0 hc) (ab_mkC s_Lexer_note (Nat.le_of_ble_eq_true rfl) (Nat.le_of_ble_eq_true rfl) (by decide) (by decide)) (k4 8 rfl rfl) i_Lexer_note v_Lexer_note go rfl rfl (Nat.le_of_ble_eq_true rfl) (fun h13 qn14 => ?_)
        refine ab_iload d_Lexer_behindNumber_115 rfl ?_
        exact ab_iret d_Lexer_behindNumber_117 rfl (Nat.le_refl _) (Nat.le_refl _) (by have hsp : lx_num bf T f = ((lx_n1 bf T f).1, 3, (((lx_n1 bf T f).2) : Int64).toInt32, 1) := (by unfold lx_num; rw [if_pos q5]; rw [if_neg q6]; rw [if_pos q12]; try rfl); rw [hsp]; exact ⟨rfl, qn14⟩)
      · refine ab_iconst (v := 0) d_Lexer_behindNumber_104 (by decide) ?_
        refine ab_goto (tgt := 110) d_Lexer_behindNumber_105 (by decide) ?_
        refine ab_iload d_Lexer_behindNumber_110 rfl ?_
        refine ab_callV_v (As := [.int 3, .int (nI f), .int 0, .int 1]) (rest := []) d_Lexer_behindNumber_112 (c_Lexer_note hl0 hc) (ab_mkC s_Lexer_note (Nat.le_of_ble_eq_true rfl) (Nat.le_of_ble_eq_true rfl) (by decide) (by decide)) (k4 8 rfl rfl) i_Lexer_note v_Lexer_note go rfl rfl (Nat.le_of_ble_eq_true rfl) (fun h15 qn16 => ?_)
        refine ab_iload d_Lexer_behindNumber_115 rfl ?_
        exact ab_iret d_Lexer_behindNumber_117 rfl (Nat.le_refl _) (Nat.le_refl _) (by have hsp : lx_num bf T f = ((lx_n1 bf T f).1, 3, 0, 1) := (by unfold lx_num; rw [if_pos q5]; rw [if_neg q6]; rw [if_neg q12]; try rfl); rw [hsp]; exact ⟨rfl, qn16⟩)
  · refine ab_aload_n d_Lexer_behindNumber_67 rfl rfl rfl ?_
    refine ab_iload d_Lexer_behindNumber_68 rfl ?_
    refine ab_iconst (v := 1) d_Lexer_behindNumber_70 (by decide) ?_
    refine ab_iadd d_Lexer_behindNumber_71 ?_
    refine ab_topi (fun x17 ex17 => ?_)
    obtain rfl : x17 = nI ((lx_n1 bf T f).1 + 1) := ex17.trans (nI_1 _)
    clear ex17
    refine ab_callV_a (As := [.int (nI ((lx_n1 bf T f).1 + 1))]) (rest := []) d_Lexer_behindNumber_72 (c_bf hl0 (nI_pos (by omega)) hT hT2 hb) (ab_mkC s_Lexer_byteAt (Nat.le_of_ble_eq_true rfl) (Nat.le_of_ble_eq_true rfl) (by decide) (by decide)) (k3 226 rfl rfl) i_Lexer_byteAt v_Lexer_byteAt go rfl rfl (Nat.le_of_ble_eq_true rfl) (fun h19 q18 => ?_)
    subst q18
    refine ab_callS_a (As := [.int (bf (nI ((lx_n1 bf T f).1 + 1)))]) (rest := []) d_Lexer_behindNumber_75 (c_Lexer_isDigit) (ab_mkC s_Lexer_isDigit (Nat.le_of_ble_eq_true rfl) (Nat.le_of_ble_eq_true rfl) (by decide) (by decide)) (k4 1 rfl rfl) t_Lexer_isDigit rfl (Nat.le_of_ble_eq_true rfl) (fun h21 q20 => ?_)
    subst q20
    refine ab_if_ne (tgt := 118) d_Lexer_behindNumber_78 (by decide) (fun q22 => ?_) (fun q22 => ?_)
    · refine ab_lconst (v := 0) d_Lexer_behindNumber_118 (by decide) ?_
      refine ab_lstore (lv' := [some (.ref b), some (.int (nI f)), some (.long ((lx_n1 bf T f).2)), none, some (.int (nI (lx_n1 bf T f).1)), some (.long 0), none, none, none, none, none, none, none]) d_Lexer_behindNumber_119 (by decide) rfl ?_
      refine ab_lconst (v := 1) d_Lexer_behindNumber_121 (by decide) ?_
      refine ab_lstore (lv' := [some (.ref b), some (.int (nI f)), some (.long ((lx_n1 bf T f).2)), none, some (.int (nI (lx_n1 bf T f).1)), some (.long 0), none, some (.long 1), none, none, none, none, none]) d_Lexer_behindNumber_122 (by decide) rfl ?_
      refine ab_iconst (v := 0) d_Lexer_behindNumber_124 (by decide) ?_
      refine ab_istore (lv' := [some (.ref b), some (.int (nI f)), some (.long ((lx_n1 bf T f).2)), none, some (.int (nI (lx_n1 bf T f).1)), some (.long 0), none, some (.long 1), none, some (.int 0), none, none, none]) d_Lexer_behindNumber_125 (by decide) rfl ?_
      obtain ⟨x23, ex23⟩ : ∃ q : Int32, q = nI (lx_n1 bf T f).1 + 1 := ⟨_, rfl⟩
      refine ab_iinc (v := x23) (lv' := [some (.ref b), some (.int (nI f)), some (.long ((lx_n1 bf T f).2)), none, some (.int x23), some (.long 0), none, some (.long 1), none, some (.int 0), none, none, none]) d_Lexer_behindNumber_127 rfl (by rw [ex23]; rfl) (by decide) rfl ?_
      obtain rfl : x23 = nI ((lx_n1 bf T f).1 + 1) := ex23.trans (nI_1 _)
      have hj := digit_lt hT hb (by omega) q22
      refine l_n2 hl0 hT hT2 hb (by first | decide | exact Nat.le_refl _) (by first | decide | exact Nat.le_refl _) (T - ((lx_n1 bf T f).1 + 1)) ((lx_n1 bf T f).1 + 1) 0 1 0 (by omega) (by omega) (fun g24 g25 => ?_)
      replace g25 : (lx_n2 bf T ((lx_n1 bf T f).1 + 1)).1 ≤ T := g25
      show ab_V _ _ _ _ _ _ _ _ [some (.ref b), some (.int (nI f)), some (.long ((lx_n1 bf T f).2)), none, some (.int (nI (lx_n2 bf T ((lx_n1 bf T f).1 + 1)).1)), some (.long ((lx_n2 bf T ((lx_n1 bf T f).1 + 1)).2.1)), none, some (.long ((lx_n2 bf T ((lx_n1 bf T f).1 + 1)).2.2.1)), none, some (.int ((lx_n2 bf T ((lx_n1 bf T f).1 + 1)).2.2.2)), none, none, none] _ _
      refine ab_lload_n d_Lexer_behindNumber_194 rfl rfl ?_
      refine ab_ldc2 d_Lexer_behindNumber_195 (k4 23 rfl rfl) ?_
      refine ab_lcmp d_Lexer_behindNumber_198 ?_
      refine ab_if_gt (tgt := 208) d_Lexer_behindNumber_199 (by decide) (fun q26 => ?_) (fun q26 => ?_)
      · refine ab_iconst (v := 1) d_Lexer_behindNumber_208 (by decide) ?_
        refine ab_goto (tgt := 213) d_Lexer_behindNumber_209 (by decide) ?_
        refine ab_istore (lv' := [some (.ref b), some (.int (nI f)), some (.long ((lx_n1 bf T f).2)), none, some (.int (nI (lx_n2 bf T ((lx_n1 bf T f).1 + 1)).1)), some (.long ((lx_n2 bf T ((lx_n1 bf T f).1 + 1)).2.1)), none, some (.long ((lx_n2 bf T ((lx_n1 bf T f).1 + 1)).2.2.1)), none, some (.int ((lx_n2 bf T ((lx_n1 bf T f).1 + 1)).2.2.2)), some (.int 1), none, none]) d_Lexer_behindNumber_213 (by decide) rfl ?_
        refine ab_lload_n d_Lexer_behindNumber_215 rfl rfl ?_
        refine ab_bipush (v := 16) d_Lexer_behindNumber_216 (by decide) ?_
        refine ab_lshl d_Lexer_behindNumber_218 ?_
        refine ab_lload d_Lexer_behindNumber_219 rfl ?_
        refine ab_ldc2 d_Lexer_behindNumber_221 (k4 24 rfl rfl) ?_
        refine ab_lmul d_Lexer_behindNumber_224 ?_
        refine ab_lload d_Lexer_behindNumber_225 rfl ?_
        refine ab_ldc2 d_Lexer_behindNumber_227 (k4 25 rfl rfl) ?_
        refine ab_ldiv d_Lexer_behindNumber_230 (by decide) ?_
        refine ab_ladd d_Lexer_behindNumber_231 ?_
        refine ab_lconst (v := 1) d_Lexer_behindNumber_232 (by decide) ?_
        refine ab_lload d_Lexer_behindNumber_233 rfl ?_
        refine ab_callS_a (As := [.long 1, .long ((lx_n2 bf T ((lx_n1 bf T f).1 + 1)).2.2.1)]) (rest := [.long ((((lx_n2 bf T ((lx_n1 bf T f).1 + 1)).2.1) * 65536) + (((lx_n2 bf T ((lx_n1 bf T f).1 + 1)).2.2.1) / 2)), .long (((lx_n1 bf T f).2) <<< ((16 : Int32).toInt64 &&& 63))]) d_Lexer_behindNumber_235 (c_Math_max2) (ab_mkC s_Math_max2 (Nat.le_of_ble_eq_true rfl) (Nat.le_of_ble_eq_true rfl) (by decide) (by decide)) (k4 26 rfl rfl) t_Math_max2 rfl (Nat.le_of_ble_eq_true rfl) (fun h28 q27 => ?_)
        subst q27
        refine ab_ldiv d_Lexer_behindNumber_238 (max2_ne _) ?_
        refine ab_ladd d_Lexer_behindNumber_239 ?_
        refine ab_topl (fun x29 ex29 => ?_)
        refine ab_lstore (lv' := [some (.ref b), some (.int (nI f)), some (.long ((lx_n1 bf T f).2)), none, some (.int (nI (lx_n2 bf T ((lx_n1 bf T f).1 + 1)).1)), some (.long ((lx_n2 bf T ((lx_n1 bf T f).1 + 1)).2.1)), none, some (.long ((lx_n2 bf T ((lx_n1 bf T f).1 + 1)).2.2.1)), none, some (.int ((lx_n2 bf T ((lx_n1 bf T f).1 + 1)).2.2.2)), some (.int 1), some (.long x29), none]) d_Lexer_behindNumber_240 (by decide) rfl ?_
        refine ab_aload_n d_Lexer_behindNumber_242 rfl rfl rfl ?_
        refine ab_iconst (v := 4) d_Lexer_behindNumber_243 (by decide) ?_
        refine ab_iload_n d_Lexer_behindNumber_244 rfl rfl ?_
        refine ab_iload d_Lexer_behindNumber_245 rfl ?_
        refine ab_if_eq (tgt := 254) d_Lexer_behindNumber_247 (by decide) (fun q30 => ?_) (fun q30 => ?_)
        · refine ab_lload d_Lexer_behindNumber_254 rfl ?_
          refine ab_l2i d_Lexer_behindNumber_256 ?_
          refine ab_iload d_Lexer_behindNumber_257 rfl ?_
          refine ab_callV_v (As := [.int 4, .int (nI f), .int ((x29 : Int64).toInt32), .int 1]) (rest := []) d_Lexer_behindNumber_259 (c_Lexer_note hl0 hc) (ab_mkC s_Lexer_note (Nat.le_of_ble_eq_true rfl) (Nat.le_of_ble_eq_true rfl) (by decide) (by decide)) (k4 8 rfl rfl) i_Lexer_note v_Lexer_note go rfl rfl (Nat.le_of_ble_eq_true rfl) (fun h31 qn32 => ?_)
          refine ab_iload d_Lexer_behindNumber_262 rfl ?_
          exact ab_iret d_Lexer_behindNumber_264 rfl (Nat.le_refl _) (Nat.le_refl _) (by subst ex29; have hsp : lx_num bf T f = ((lx_n2 bf T ((lx_n1 bf T f).1 + 1)).1, 4, (((((lx_n1 bf T f).2) <<< ((16 : Int32).toInt64 &&& 63)) + (((((lx_n2 bf T ((lx_n1 bf T f).1 + 1)).2.1) * 65536) + (((lx_n2 bf T ((lx_n1 bf T f).1 + 1)).2.2.1) / 2)) / (sp_Math_max2 1 ((lx_n2 bf T ((lx_n1 bf T f).1 + 1)).2.2.1)))) : Int64).toInt32, 1) := (by unfold lx_num; rw [if_neg (fun z => z q5)]; rw [if_pos q22]; rw [if_pos q26]; rw [if_pos q30]; try rfl); rw [hsp]; exact ⟨rfl, qn32⟩)
        · refine ab_iconst (v := 0) d_Lexer_behindNumber_250 (by decide) ?_
          refine ab_goto (tgt := 257) d_Lexer_behindNumber_251 (by decide) ?_
          refine ab_iload d_Lexer_behindNumber_257 rfl ?_
          refine ab_callV_v (As := [.int 4, .int (nI f), .int 0, .int 1]) (rest := []) d_Lexer_behindNumber_259 (c_Lexer_note hl0 hc) (ab_mkC s_Lexer_note (Nat.le_of_ble_eq_true rfl) (Nat.le_of_ble_eq_true rfl) (by decide) (by decide)) (k4 8 rfl rfl) i_Lexer_note v_Lexer_note go rfl rfl (Nat.le_of_ble_eq_true rfl) (fun h33 qn34 => ?_)
          refine ab_iload d_Lexer_behindNumber_262 rfl ?_
          exact ab_iret d_Lexer_behindNumber_264 rfl (Nat.le_refl _) (Nat.le_refl _) (by subst ex29; have hsp : lx_num bf T f = ((lx_n2 bf T ((lx_n1 bf T f).1 + 1)).1, 4, 0, 1) := (by unfold lx_num; rw [if_neg (fun z => z q5)]; rw [if_pos q22]; rw [if_pos q26]; rw [if_neg q30]; try rfl); rw [hsp]; exact ⟨rfl, qn34⟩)
      · refine ab_iload d_Lexer_behindNumber_202 rfl ?_
        refine ab_iconst (v := 4) d_Lexer_behindNumber_204 (by decide) ?_
        refine ab_icmp_le (tgt := 212) d_Lexer_behindNumber_205 (by decide) (fun q35 => ?_) (fun q35 => ?_)
        · refine ab_iconst (v := 0) d_Lexer_behindNumber_212 (by decide) ?_
          refine ab_istore (lv' := [some (.ref b), some (.int (nI f)), some (.long ((lx_n1 bf T f).2)), none, some (.int (nI (lx_n2 bf T ((lx_n1 bf T f).1 + 1)).1)), some (.long ((lx_n2 bf T ((lx_n1 bf T f).1 + 1)).2.1)), none, some (.long ((lx_n2 bf T ((lx_n1 bf T f).1 + 1)).2.2.1)), none, some (.int ((lx_n2 bf T ((lx_n1 bf T f).1 + 1)).2.2.2)), some (.int 0), none, none]) d_Lexer_behindNumber_213 (by decide) rfl ?_
          refine ab_lload_n d_Lexer_behindNumber_215 rfl rfl ?_
          refine ab_bipush (v := 16) d_Lexer_behindNumber_216 (by decide) ?_
          refine ab_lshl d_Lexer_behindNumber_218 ?_
          refine ab_lload d_Lexer_behindNumber_219 rfl ?_
          refine ab_ldc2 d_Lexer_behindNumber_221 (k4 24 rfl rfl) ?_
          refine ab_lmul d_Lexer_behindNumber_224 ?_
          refine ab_lload d_Lexer_behindNumber_225 rfl ?_
          refine ab_ldc2 d_Lexer_behindNumber_227 (k4 25 rfl rfl) ?_
          refine ab_ldiv d_Lexer_behindNumber_230 (by decide) ?_
          refine ab_ladd d_Lexer_behindNumber_231 ?_
          refine ab_lconst (v := 1) d_Lexer_behindNumber_232 (by decide) ?_
          refine ab_lload d_Lexer_behindNumber_233 rfl ?_
          refine ab_callS_a (As := [.long 1, .long ((lx_n2 bf T ((lx_n1 bf T f).1 + 1)).2.2.1)]) (rest := [.long ((((lx_n2 bf T ((lx_n1 bf T f).1 + 1)).2.1) * 65536) + (((lx_n2 bf T ((lx_n1 bf T f).1 + 1)).2.2.1) / 2)), .long (((lx_n1 bf T f).2) <<< ((16 : Int32).toInt64 &&& 63))]) d_Lexer_behindNumber_235 (c_Math_max2) (ab_mkC s_Math_max2 (Nat.le_of_ble_eq_true rfl) (Nat.le_of_ble_eq_true rfl) (by decide) (by decide)) (k4 26 rfl rfl) t_Math_max2 rfl (Nat.le_of_ble_eq_true rfl) (fun h37 q36 => ?_)
          subst q36
          refine ab_ldiv d_Lexer_behindNumber_238 (max2_ne _) ?_
          refine ab_ladd d_Lexer_behindNumber_239 ?_
          refine ab_topl (fun x38 ex38 => ?_)
          refine ab_lstore (lv' := [some (.ref b), some (.int (nI f)), some (.long ((lx_n1 bf T f).2)), none, some (.int (nI (lx_n2 bf T ((lx_n1 bf T f).1 + 1)).1)), some (.long ((lx_n2 bf T ((lx_n1 bf T f).1 + 1)).2.1)), none, some (.long ((lx_n2 bf T ((lx_n1 bf T f).1 + 1)).2.2.1)), none, some (.int ((lx_n2 bf T ((lx_n1 bf T f).1 + 1)).2.2.2)), some (.int 0), some (.long x38), none]) d_Lexer_behindNumber_240 (by decide) rfl ?_
          refine ab_aload_n d_Lexer_behindNumber_242 rfl rfl rfl ?_
          refine ab_iconst (v := 4) d_Lexer_behindNumber_243 (by decide) ?_
          refine ab_iload_n d_Lexer_behindNumber_244 rfl rfl ?_
          refine ab_iload d_Lexer_behindNumber_245 rfl ?_
          refine ab_if_eq (tgt := 254) d_Lexer_behindNumber_247 (by decide) (fun q39 => ?_) (fun q39 => ?_)
          · refine ab_lload d_Lexer_behindNumber_254 rfl ?_
            refine ab_l2i d_Lexer_behindNumber_256 ?_
            refine ab_iload d_Lexer_behindNumber_257 rfl ?_
            refine ab_callV_v (As := [.int 4, .int (nI f), .int ((x38 : Int64).toInt32), .int 0]) (rest := []) d_Lexer_behindNumber_259 (c_Lexer_note hl0 hc) (ab_mkC s_Lexer_note (Nat.le_of_ble_eq_true rfl) (Nat.le_of_ble_eq_true rfl) (by decide) (by decide)) (k4 8 rfl rfl) i_Lexer_note v_Lexer_note go rfl rfl (Nat.le_of_ble_eq_true rfl) (fun h40 qn41 => ?_)
            refine ab_iload d_Lexer_behindNumber_262 rfl ?_
            exact ab_iret d_Lexer_behindNumber_264 rfl (Nat.le_refl _) (Nat.le_refl _) (by subst ex38; have hsp : lx_num bf T f = ((lx_n2 bf T ((lx_n1 bf T f).1 + 1)).1, 4, (((((lx_n1 bf T f).2) <<< ((16 : Int32).toInt64 &&& 63)) + (((((lx_n2 bf T ((lx_n1 bf T f).1 + 1)).2.1) * 65536) + (((lx_n2 bf T ((lx_n1 bf T f).1 + 1)).2.2.1) / 2)) / (sp_Math_max2 1 ((lx_n2 bf T ((lx_n1 bf T f).1 + 1)).2.2.1)))) : Int64).toInt32, 0) := (by unfold lx_num; rw [if_neg (fun z => z q5)]; rw [if_pos q22]; rw [if_neg q26]; rw [if_pos q35]; rw [if_pos q39]; try rfl); rw [hsp]; exact ⟨rfl, qn41⟩)
          · refine ab_iconst (v := 0) d_Lexer_behindNumber_250 (by decide) ?_
            refine ab_goto (tgt := 257) d_Lexer_behindNumber_251 (by decide) ?_
            refine ab_iload d_Lexer_behindNumber_257 rfl ?_
            refine ab_callV_v (As := [.int 4, .int (nI f), .int 0, .int 0]) (rest := []) d_Lexer_behindNumber_259 (c_Lexer_note hl0 hc) (ab_mkC s_Lexer_note (Nat.le_of_ble_eq_true rfl) (Nat.le_of_ble_eq_true rfl) (by decide) (by decide)) (k4 8 rfl rfl) i_Lexer_note v_Lexer_note go rfl rfl (Nat.le_of_ble_eq_true rfl) (fun h42 qn43 => ?_)
            refine ab_iload d_Lexer_behindNumber_262 rfl ?_
            exact ab_iret d_Lexer_behindNumber_264 rfl (Nat.le_refl _) (Nat.le_refl _) (by subst ex38; have hsp : lx_num bf T f = ((lx_n2 bf T ((lx_n1 bf T f).1 + 1)).1, 4, 0, 0) := (by unfold lx_num; rw [if_neg (fun z => z q5)]; rw [if_pos q22]; rw [if_neg q26]; rw [if_pos q35]; rw [if_neg q39]; try rfl); rw [hsp]; exact ⟨rfl, qn43⟩)
        · refine ab_iconst (v := 1) d_Lexer_behindNumber_208 (by decide) ?_
          refine ab_goto (tgt := 213) d_Lexer_behindNumber_209 (by decide) ?_
          refine ab_istore (lv' := [some (.ref b), some (.int (nI f)), some (.long ((lx_n1 bf T f).2)), none, some (.int (nI (lx_n2 bf T ((lx_n1 bf T f).1 + 1)).1)), some (.long ((lx_n2 bf T ((lx_n1 bf T f).1 + 1)).2.1)), none, some (.long ((lx_n2 bf T ((lx_n1 bf T f).1 + 1)).2.2.1)), none, some (.int ((lx_n2 bf T ((lx_n1 bf T f).1 + 1)).2.2.2)), some (.int 1), none, none]) d_Lexer_behindNumber_213 (by decide) rfl ?_
          refine ab_lload_n d_Lexer_behindNumber_215 rfl rfl ?_
          refine ab_bipush (v := 16) d_Lexer_behindNumber_216 (by decide) ?_
          refine ab_lshl d_Lexer_behindNumber_218 ?_
          refine ab_lload d_Lexer_behindNumber_219 rfl ?_
          refine ab_ldc2 d_Lexer_behindNumber_221 (k4 24 rfl rfl) ?_
          refine ab_lmul d_Lexer_behindNumber_224 ?_
          refine ab_lload d_Lexer_behindNumber_225 rfl ?_
          refine ab_ldc2 d_Lexer_behindNumber_227 (k4 25 rfl rfl) ?_
          refine ab_ldiv d_Lexer_behindNumber_230 (by decide) ?_
          refine ab_ladd d_Lexer_behindNumber_231 ?_
          refine ab_lconst (v := 1) d_Lexer_behindNumber_232 (by decide) ?_
          refine ab_lload d_Lexer_behindNumber_233 rfl ?_
          refine ab_callS_a (As := [.long 1, .long ((lx_n2 bf T ((lx_n1 bf T f).1 + 1)).2.2.1)]) (rest := [.long ((((lx_n2 bf T ((lx_n1 bf T f).1 + 1)).2.1) * 65536) + (((lx_n2 bf T ((lx_n1 bf T f).1 + 1)).2.2.1) / 2)), .long (((lx_n1 bf T f).2) <<< ((16 : Int32).toInt64 &&& 63))]) d_Lexer_behindNumber_235 (c_Math_max2) (ab_mkC s_Math_max2 (Nat.le_of_ble_eq_true rfl) (Nat.le_of_ble_eq_true rfl) (by decide) (by decide)) (k4 26 rfl rfl) t_Math_max2 rfl (Nat.le_of_ble_eq_true rfl) (fun h45 q44 => ?_)
          subst q44
          refine ab_ldiv d_Lexer_behindNumber_238 (max2_ne _) ?_
          refine ab_ladd d_Lexer_behindNumber_239 ?_
          refine ab_topl (fun x46 ex46 => ?_)
          refine ab_lstore (lv' := [some (.ref b), some (.int (nI f)), some (.long ((lx_n1 bf T f).2)), none, some (.int (nI (lx_n2 bf T ((lx_n1 bf T f).1 + 1)).1)), some (.long ((lx_n2 bf T ((lx_n1 bf T f).1 + 1)).2.1)), none, some (.long ((lx_n2 bf T ((lx_n1 bf T f).1 + 1)).2.2.1)), none, some (.int ((lx_n2 bf T ((lx_n1 bf T f).1 + 1)).2.2.2)), some (.int 1), some (.long x46), none]) d_Lexer_behindNumber_240 (by decide) rfl ?_
          refine ab_aload_n d_Lexer_behindNumber_242 rfl rfl rfl ?_
          refine ab_iconst (v := 4) d_Lexer_behindNumber_243 (by decide) ?_
          refine ab_iload_n d_Lexer_behindNumber_244 rfl rfl ?_
          refine ab_iload d_Lexer_behindNumber_245 rfl ?_
          refine ab_if_eq (tgt := 254) d_Lexer_behindNumber_247 (by decide) (fun q47 => ?_) (fun q47 => ?_)
          · refine ab_lload d_Lexer_behindNumber_254 rfl ?_
            refine ab_l2i d_Lexer_behindNumber_256 ?_
            refine ab_iload d_Lexer_behindNumber_257 rfl ?_
            refine ab_callV_v (As := [.int 4, .int (nI f), .int ((x46 : Int64).toInt32), .int 1]) (rest := []) d_Lexer_behindNumber_259 (c_Lexer_note hl0 hc) (ab_mkC s_Lexer_note (Nat.le_of_ble_eq_true rfl) (Nat.le_of_ble_eq_true rfl) (by decide) (by decide)) (k4 8 rfl rfl) i_Lexer_note v_Lexer_note go rfl rfl (Nat.le_of_ble_eq_true rfl) (fun h48 qn49 => ?_)
            refine ab_iload d_Lexer_behindNumber_262 rfl ?_
            exact ab_iret d_Lexer_behindNumber_264 rfl (Nat.le_refl _) (Nat.le_refl _) (by subst ex46; have hsp : lx_num bf T f = ((lx_n2 bf T ((lx_n1 bf T f).1 + 1)).1, 4, (((((lx_n1 bf T f).2) <<< ((16 : Int32).toInt64 &&& 63)) + (((((lx_n2 bf T ((lx_n1 bf T f).1 + 1)).2.1) * 65536) + (((lx_n2 bf T ((lx_n1 bf T f).1 + 1)).2.2.1) / 2)) / (sp_Math_max2 1 ((lx_n2 bf T ((lx_n1 bf T f).1 + 1)).2.2.1)))) : Int64).toInt32, 1) := (by unfold lx_num; rw [if_neg (fun z => z q5)]; rw [if_pos q22]; rw [if_neg q26]; rw [if_neg q35]; rw [if_pos q47]; try rfl); rw [hsp]; exact ⟨rfl, qn49⟩)
          · refine ab_iconst (v := 0) d_Lexer_behindNumber_250 (by decide) ?_
            refine ab_goto (tgt := 257) d_Lexer_behindNumber_251 (by decide) ?_
            refine ab_iload d_Lexer_behindNumber_257 rfl ?_
            refine ab_callV_v (As := [.int 4, .int (nI f), .int 0, .int 1]) (rest := []) d_Lexer_behindNumber_259 (c_Lexer_note hl0 hc) (ab_mkC s_Lexer_note (Nat.le_of_ble_eq_true rfl) (Nat.le_of_ble_eq_true rfl) (by decide) (by decide)) (k4 8 rfl rfl) i_Lexer_note v_Lexer_note go rfl rfl (Nat.le_of_ble_eq_true rfl) (fun h50 qn51 => ?_)
            refine ab_iload d_Lexer_behindNumber_262 rfl ?_
            exact ab_iret d_Lexer_behindNumber_264 rfl (Nat.le_refl _) (Nat.le_refl _) (by subst ex46; have hsp : lx_num bf T f = ((lx_n2 bf T ((lx_n1 bf T f).1 + 1)).1, 4, 0, 1) := (by unfold lx_num; rw [if_neg (fun z => z q5)]; rw [if_pos q22]; rw [if_neg q26]; rw [if_neg q35]; rw [if_neg q47]; try rfl); rw [hsp]; exact ⟨rfl, qn51⟩)
    · refine ab_lload_n d_Lexer_behindNumber_81 rfl rfl ?_
      refine ab_ldc2 d_Lexer_behindNumber_82 (k4 22 rfl rfl) ?_
      refine ab_lcmp d_Lexer_behindNumber_85 ?_
      refine ab_if_le (tgt := 93) d_Lexer_behindNumber_86 (by decide) (fun q52 => ?_) (fun q52 => ?_)
      · refine ab_iconst (v := 0) d_Lexer_behindNumber_93 (by decide) ?_
        refine ab_istore (lv' := [some (.ref b), some (.int (nI f)), some (.long ((lx_n1 bf T f).2)), none, some (.int (nI (lx_n1 bf T f).1)), some (.int 0), none, none, none, none, none, none, none]) d_Lexer_behindNumber_94 (by decide) rfl ?_
        refine ab_aload_n d_Lexer_behindNumber_96 rfl rfl rfl ?_
        refine ab_iconst (v := 3) d_Lexer_behindNumber_97 (by decide) ?_
        refine ab_iload_n d_Lexer_behindNumber_98 rfl rfl ?_
        refine ab_iload d_Lexer_behindNumber_99 rfl ?_
        refine ab_if_eq (tgt := 108) d_Lexer_behindNumber_101 (by decide) (fun q53 => ?_) (fun q53 => ?_)
        · refine ab_lload_n d_Lexer_behindNumber_108 rfl rfl ?_
          refine ab_l2i d_Lexer_behindNumber_109 ?_
          refine ab_iload d_Lexer_behindNumber_110 rfl ?_
          refine ab_callV_v (As := [.int 3, .int (nI f), .int ((((lx_n1 bf T f).2) : Int64).toInt32), .int 0]) (rest := []) d_Lexer_behindNumber_112 (c_Lexer_note hl0 hc) (ab_mkC s_Lexer_note (Nat.le_of_ble_eq_true rfl) (Nat.le_of_ble_eq_true rfl) (by decide) (by decide)) (k4 8 rfl rfl) i_Lexer_note v_Lexer_note go rfl rfl (Nat.le_of_ble_eq_true rfl) (fun h54 qn55 => ?_)
          refine ab_iload d_Lexer_behindNumber_115 rfl ?_
          exact ab_iret d_Lexer_behindNumber_117 rfl (Nat.le_refl _) (Nat.le_refl _) (by have hsp : lx_num bf T f = ((lx_n1 bf T f).1, 3, (((lx_n1 bf T f).2) : Int64).toInt32, 0) := (by unfold lx_num; rw [if_neg (fun z => z q5)]; rw [if_neg (fun z => z q22)]; rw [if_pos q52]; rw [if_pos q53]; try rfl); rw [hsp]; exact ⟨rfl, qn55⟩)
        · refine ab_iconst (v := 0) d_Lexer_behindNumber_104 (by decide) ?_
          refine ab_goto (tgt := 110) d_Lexer_behindNumber_105 (by decide) ?_
          refine ab_iload d_Lexer_behindNumber_110 rfl ?_
          refine ab_callV_v (As := [.int 3, .int (nI f), .int 0, .int 0]) (rest := []) d_Lexer_behindNumber_112 (c_Lexer_note hl0 hc) (ab_mkC s_Lexer_note (Nat.le_of_ble_eq_true rfl) (Nat.le_of_ble_eq_true rfl) (by decide) (by decide)) (k4 8 rfl rfl) i_Lexer_note v_Lexer_note go rfl rfl (Nat.le_of_ble_eq_true rfl) (fun h56 qn57 => ?_)
          refine ab_iload d_Lexer_behindNumber_115 rfl ?_
          exact ab_iret d_Lexer_behindNumber_117 rfl (Nat.le_refl _) (Nat.le_refl _) (by have hsp : lx_num bf T f = ((lx_n1 bf T f).1, 3, 0, 0) := (by unfold lx_num; rw [if_neg (fun z => z q5)]; rw [if_neg (fun z => z q22)]; rw [if_pos q52]; rw [if_neg q53]; try rfl); rw [hsp]; exact ⟨rfl, qn57⟩)
      · refine ab_iconst (v := 1) d_Lexer_behindNumber_89 (by decide) ?_
        refine ab_goto (tgt := 94) d_Lexer_behindNumber_90 (by decide) ?_
        refine ab_istore (lv' := [some (.ref b), some (.int (nI f)), some (.long ((lx_n1 bf T f).2)), none, some (.int (nI (lx_n1 bf T f).1)), some (.int 1), none, none, none, none, none, none, none]) d_Lexer_behindNumber_94 (by decide) rfl ?_
        refine ab_aload_n d_Lexer_behindNumber_96 rfl rfl rfl ?_
        refine ab_iconst (v := 3) d_Lexer_behindNumber_97 (by decide) ?_
        refine ab_iload_n d_Lexer_behindNumber_98 rfl rfl ?_
        refine ab_iload d_Lexer_behindNumber_99 rfl ?_
        refine ab_if_eq (tgt := 108) d_Lexer_behindNumber_101 (by decide) (fun q58 => ?_) (fun q58 => ?_)
        · refine ab_lload_n d_Lexer_behindNumber_108 rfl rfl ?_
          refine ab_l2i d_Lexer_behindNumber_109 ?_
          refine ab_iload d_Lexer_behindNumber_110 rfl ?_
          refine ab_callV_v (As := [.int 3, .int (nI f), .int ((((lx_n1 bf T f).2) : Int64).toInt32), .int 1]) (rest := []) d_Lexer_behindNumber_112 (c_Lexer_note hl0 hc) (ab_mkC s_Lexer_note (Nat.le_of_ble_eq_true rfl) (Nat.le_of_ble_eq_true rfl) (by decide) (by decide)) (k4 8 rfl rfl) i_Lexer_note v_Lexer_note go rfl rfl (Nat.le_of_ble_eq_true rfl) (fun h59 qn60 => ?_)
          refine ab_iload d_Lexer_behindNumber_115 rfl ?_
          exact ab_iret d_Lexer_behindNumber_117 rfl (Nat.le_refl _) (Nat.le_refl _) (by have hsp : lx_num bf T f = ((lx_n1 bf T f).1, 3, (((lx_n1 bf T f).2) : Int64).toInt32, 1) := (by unfold lx_num; rw [if_neg (fun z => z q5)]; rw [if_neg (fun z => z q22)]; rw [if_neg q52]; rw [if_pos q58]; try rfl); rw [hsp]; exact ⟨rfl, qn60⟩)
        · refine ab_iconst (v := 0) d_Lexer_behindNumber_104 (by decide) ?_
          refine ab_goto (tgt := 110) d_Lexer_behindNumber_105 (by decide) ?_
          refine ab_iload d_Lexer_behindNumber_110 rfl ?_
          refine ab_callV_v (As := [.int 3, .int (nI f), .int 0, .int 1]) (rest := []) d_Lexer_behindNumber_112 (c_Lexer_note hl0 hc) (ab_mkC s_Lexer_note (Nat.le_of_ble_eq_true rfl) (Nat.le_of_ble_eq_true rfl) (by decide) (by decide)) (k4 8 rfl rfl) i_Lexer_note v_Lexer_note go rfl rfl (Nat.le_of_ble_eq_true rfl) (fun h61 qn62 => ?_)
          refine ab_iload d_Lexer_behindNumber_115 rfl ?_
          exact ab_iret d_Lexer_behindNumber_117 rfl (Nat.le_refl _) (Nat.le_refl _) (by have hsp : lx_num bf T f = ((lx_n1 bf T f).1, 3, 0, 1) := (by unfold lx_num; rw [if_neg (fun z => z q5)]; rw [if_neg (fun z => z q22)]; rw [if_neg q52]; rw [if_neg q58]; try rfl); rw [hsp]; exact ⟨rfl, qn62⟩)
