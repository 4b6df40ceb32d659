def at_Lexer (h : List ab_E) (b : Nat) (s : Nat → Int32) (a : Nat → Nat → Int32) : Prop :=
  h[b]? = some (.inr (1, [.ref (b + 1), .int (s 1), .int (s 2), .int (s 3), .int (s 4), .int (s 5), .ref (b + 2), .ref (b + 3), .ref (b + 4), .ref (b + 5), .int (s 10), .int (s 11), .ref (b + 6)])) ∧ h[b + 1]? = some (.inl (.byte, 6000, .inl (a 0))) ∧ h[b + 2]? = some (.inl (.int, 6001, .inl (a 6))) ∧ h[b + 3]? = some (.inl (.int, 6001, .inl (a 7))) ∧ h[b + 4]? = some (.inl (.int, 6001, .inl (a 8))) ∧ h[b + 5]? = some (.inl (.boolean, 6001, .inl (a 9))) ∧ h[b + 6]? = some (.inl (.int, 42, .inl (a 12)))
def in_Lexer (b : Nat) : Nat → Prop := fun i => b ≤ i ∧ i ≤ b + 6
theorem fr_Lexer {S : Nat → Prop} {h h1 : List ab_E} {b : Nat}  {s : Nat → Int32} {a : Nat → Nat → Int32} (hf : ab_fr S h h1) (h0 : at_Lexer h b  s a) (hn : ∀ i, in_Lexer b i → ¬ S i) : at_Lexer h1 b  s a := by
  obtain ⟨g0, g1, g2, g3, g4, g5, g6⟩ := h0
  exact ⟨ab_fr_at hf g0 (hn _ (by show _ ∧ _; omega)), ab_fr_at hf g1 (hn _ (by show _ ∧ _; omega)), ab_fr_at hf g2 (hn _ (by show _ ∧ _; omega)), ab_fr_at hf g3 (hn _ (by show _ ∧ _; omega)), ab_fr_at hf g4 (hn _ (by show _ ∧ _; omega)), ab_fr_at hf g5 (hn _ (by show _ ∧ _; omega)), ab_fr_at hf g6 (hn _ (by show _ ∧ _; omega))⟩
def sp_letter (c : Int32) : Int32 := if ¬ c < 97 ∧ ¬ 122 < c ∨ ¬ c < 65 ∧ ¬ 90 < c then 1 else 0
def sp_digit (c : Int32) : Int32 := if ¬ c < 48 ∧ ¬ 57 < c then 1 else 0
set_option maxRecDepth 20000 in
set_option maxHeartbeats 2000000 in
theorem c_Lexer_isLetter {h : List ab_E}  {c : Int32}   : ab_M y_Lexer_isLetter { frames := 0, cells := 0, slots := 0, locals := 0 } [.int c] h (ab_A (some (.int (sp_letter c))) (fun h1 => h = h1)) := by
  refine ab_of2 (lv := [some (.int c)]) 0 rfl rfl (Nat.le_of_ble_eq_true rfl) ?_
  refine ab_iload_n d_Lexer_isLetter_0 rfl rfl ?_
  refine ab_bipush (v := 97) d_Lexer_isLetter_1 (by decide) ?_
  refine ab_icmp_lt (tgt := 12) d_Lexer_isLetter_3 (by decide) (fun q1 => ?_) (fun q1 => ?_)
  · refine ab_iload_n d_Lexer_isLetter_12 rfl rfl ?_
    refine ab_bipush (v := 65) d_Lexer_isLetter_13 (by decide) ?_
    refine ab_icmp_lt (tgt := 28) d_Lexer_isLetter_15 (by decide) (fun q2 => ?_) (fun q2 => ?_)
    · refine ab_iconst (v := 0) d_Lexer_isLetter_28 (by decide) ?_
      exact ab_zret d_Lexer_isLetter_29 rfl rfl (Nat.le_refl _) (Nat.le_refl _) ⟨by simp_all [sp_letter], rfl⟩
    · refine ab_iload_n d_Lexer_isLetter_18 rfl rfl ?_
      refine ab_bipush (v := 90) d_Lexer_isLetter_19 (by decide) ?_
      refine ab_icmp_gt (tgt := 28) d_Lexer_isLetter_21 (by decide) (fun q3 => ?_) (fun q3 => ?_)
      · refine ab_iconst (v := 0) d_Lexer_isLetter_28 (by decide) ?_
        exact ab_zret d_Lexer_isLetter_29 rfl rfl (Nat.le_refl _) (Nat.le_refl _) ⟨by simp_all [sp_letter], rfl⟩
      · refine ab_iconst (v := 1) d_Lexer_isLetter_24 (by decide) ?_
        refine ab_goto (tgt := 29) d_Lexer_isLetter_25 (by decide) ?_
        exact ab_zret d_Lexer_isLetter_29 rfl rfl (Nat.le_refl _) (Nat.le_refl _) ⟨by simp_all [sp_letter], rfl⟩
  · refine ab_iload_n d_Lexer_isLetter_6 rfl rfl ?_
    refine ab_bipush (v := 122) d_Lexer_isLetter_7 (by decide) ?_
    refine ab_icmp_le (tgt := 24) d_Lexer_isLetter_9 (by decide) (fun q4 => ?_) (fun q4 => ?_)
    · refine ab_iconst (v := 1) d_Lexer_isLetter_24 (by decide) ?_
      refine ab_goto (tgt := 29) d_Lexer_isLetter_25 (by decide) ?_
      exact ab_zret d_Lexer_isLetter_29 rfl rfl (Nat.le_refl _) (Nat.le_refl _) ⟨by simp_all [sp_letter], rfl⟩
    · refine ab_iload_n d_Lexer_isLetter_12 rfl rfl ?_
      refine ab_bipush (v := 65) d_Lexer_isLetter_13 (by decide) ?_
      refine ab_icmp_lt (tgt := 28) d_Lexer_isLetter_15 (by decide) (fun q5 => ?_) (fun q5 => ?_)
      · refine ab_iconst (v := 0) d_Lexer_isLetter_28 (by decide) ?_
        exact ab_zret d_Lexer_isLetter_29 rfl rfl (Nat.le_refl _) (Nat.le_refl _) ⟨by simp_all [sp_letter], rfl⟩
      · refine ab_iload_n d_Lexer_isLetter_18 rfl rfl ?_
        refine ab_bipush (v := 90) d_Lexer_isLetter_19 (by decide) ?_
        refine ab_icmp_gt (tgt := 28) d_Lexer_isLetter_21 (by decide) (fun q6 => ?_) (fun q6 => ?_)
        · refine ab_iconst (v := 0) d_Lexer_isLetter_28 (by decide) ?_
          exact ab_zret d_Lexer_isLetter_29 rfl rfl (Nat.le_refl _) (Nat.le_refl _) ⟨by simp_all [sp_letter], rfl⟩
        · refine ab_iconst (v := 1) d_Lexer_isLetter_24 (by decide) ?_
          refine ab_goto (tgt := 29) d_Lexer_isLetter_25 (by decide) ?_
          exact ab_zret d_Lexer_isLetter_29 rfl rfl (Nat.le_refl _) (Nat.le_refl _) ⟨by simp_all [sp_letter], rfl⟩
set_option maxRecDepth 20000 in
set_option maxHeartbeats 2000000 in
theorem c_Lexer_isDigit {h : List ab_E}  {c : Int32}   : ab_M y_Lexer_isDigit { frames := 0, cells := 0, slots := 0, locals := 0 } [.int c] h (ab_A (some (.int (sp_digit c))) (fun h1 => h = h1)) := by
  refine ab_of2 (lv := [some (.int c)]) 0 rfl rfl (Nat.le_of_ble_eq_true rfl) ?_
  refine ab_iload_n d_Lexer_isDigit_0 rfl rfl ?_
  refine ab_bipush (v := 48) d_Lexer_isDigit_1 (by decide) ?_
  refine ab_icmp_lt (tgt := 16) d_Lexer_isDigit_3 (by decide) (fun q1 => ?_) (fun q1 => ?_)
  · refine ab_iconst (v := 0) d_Lexer_isDigit_16 (by decide) ?_
    exact ab_zret d_Lexer_isDigit_17 rfl rfl (Nat.le_refl _) (Nat.le_refl _) ⟨by simp_all [sp_digit], rfl⟩
  · refine ab_iload_n d_Lexer_isDigit_6 rfl rfl ?_
    refine ab_bipush (v := 57) d_Lexer_isDigit_7 (by decide) ?_
    refine ab_icmp_gt (tgt := 16) d_Lexer_isDigit_9 (by decide) (fun q2 => ?_) (fun q2 => ?_)
    · refine ab_iconst (v := 0) d_Lexer_isDigit_16 (by decide) ?_
      exact ab_zret d_Lexer_isDigit_17 rfl rfl (Nat.le_refl _) (Nat.le_refl _) ⟨by simp_all [sp_digit], rfl⟩
    · refine ab_iconst (v := 1) d_Lexer_isDigit_12 (by decide) ?_
      refine ab_goto (tgt := 17) d_Lexer_isDigit_13 (by decide) ?_
      exact ab_zret d_Lexer_isDigit_17 rfl rfl (Nat.le_refl _) (Nat.le_refl _) ⟨by simp_all [sp_digit], rfl⟩
set_option maxRecDepth 20000 in
set_option maxHeartbeats 2000000 in
theorem c_Lexer_hasRoom {h : List ab_E} {b : Nat} {s : Nat → Int32} {a : Nat → Nat → Int32} {n : Int32} (hl : at_Lexer h b s a)  : ab_M y_Lexer_hasRoom { frames := 0, cells := 0, slots := 0, locals := 0 } [.ref b, .int n] h (ab_A (some (.int (if s 1 ≤ 6000 - n then 1 else 0))) (fun h1 => h = h1)) := by
  have hl0 := hl; obtain ⟨go, g0, g6, g7, g8, g9, g12⟩ := hl
  refine ab_of2 (lv := [some (.ref b), some (.int n)]) 0 rfl rfl (Nat.le_of_ble_eq_true rfl) ?_
  refine ab_aload_n d_Lexer_hasRoom_0 rfl rfl rfl ?_
  refine ab_get (f := 1) d_Lexer_hasRoom_1 go rfl (by decide) (k1 95 rfl rfl) rfl ?_
  refine ab_sipush (v := 6000) d_Lexer_hasRoom_4 (by decide) ?_
  refine ab_iload_n d_Lexer_hasRoom_7 rfl rfl ?_
  refine ab_isub d_Lexer_hasRoom_8 ?_
  refine ab_icmp_gt (tgt := 16) d_Lexer_hasRoom_9 (by decide) (fun q1 => ?_) (fun q1 => ?_)
  · refine ab_iconst (v := 0) d_Lexer_hasRoom_16 (by decide) ?_
    exact ab_zret d_Lexer_hasRoom_17 rfl rfl (Nat.le_refl _) (Nat.le_refl _) ⟨by simp_all, rfl⟩
  · refine ab_iconst (v := 1) d_Lexer_hasRoom_12 (by decide) ?_
    refine ab_goto (tgt := 17) d_Lexer_hasRoom_13 (by decide) ?_
    exact ab_zret d_Lexer_hasRoom_17 rfl rfl (Nat.le_refl _) (Nat.le_refl _) ⟨by simp_all, rfl⟩
