def at_W (h : List ab_E) (b : Nat) (pr sp : Nat) (s : Nat → Int32) (a : Nat → Nat → Int32) : Prop :=
  h[b]? = some (.inr (0, [.ref (b + 1), .ref (b + 8), .ref (b + 11), .ref (b + 131), .ref pr, .ref sp, .int (s 6), .int (s 7), .int (s 8)]))
def in_W (b : Nat) : Nat → Prop := fun i => b ≤ i ∧ i ≤ b + 0
theorem fr_W {S : Nat → Prop} {h h1 : List ab_E} {b : Nat}  {pr sp : Nat} {s : Nat → Int32} {a : Nat → Nat → Int32} (hf : ab_fr S h h1) (h0 : at_W h b pr sp s a) (hn : ∀ i, in_W b i → ¬ S i) : at_W h1 b pr sp s a := by
  exact ab_fr_at hf h0 (hn _ (by show _ ∧ _; omega))
def at_Store (h : List ab_E) (b : Nat) (s : Nat → Int32) (a : Nat → Nat → Int32) : Prop :=
  h[b]? = some (.inr (11, [.ref (b + 1), .int (s 1), .int (s 2), .int (s 3), .int (s 4), .int (s 5)])) ∧ h[b + 1]? = some (.inl (.byte, 60000, .inl (a 0)))
def in_Store (b : Nat) : Nat → Prop := fun i => b ≤ i ∧ i ≤ b + 1
theorem fr_Store {S : Nat → Prop} {h h1 : List ab_E} {b : Nat}  {s : Nat → Int32} {a : Nat → Nat → Int32} (hf : ab_fr S h h1) (h0 : at_Store h b  s a) (hn : ∀ i, in_Store b i → ¬ S i) : at_Store h1 b  s a := by
  obtain ⟨g0, g1⟩ := h0
  exact ⟨ab_fr_at hf g0 (hn _ (by show _ ∧ _; omega)), ab_fr_at hf g1 (hn _ (by show _ ∧ _; omega))⟩
def at_Program (h : List ab_E) (b : Nat) (s : Nat → Int32) (a : Nat → Nat → Int32) : Prop :=
  h[b]? = some (.inr (4, [.ref (b + 1), .int (s 1), .ref (b + 70), .ref (b + 138), .int (s 4), .ref (b + 182), .ref (b + 183), .int (s 7), .ref (b + 184), .ref (b + 185), .ref (b + 186), .ref (b + 187), .ref (b + 188), .ref (b + 189), .ref (b + 190), .int (s 15), .ref (b + 191), .int (s 17)])) ∧ h[b + 182]? = some (.inl (.int, 16, .inl (a 5))) ∧ h[b + 183]? = some (.inl (.int, 768, .inl (a 6))) ∧ h[b + 184]? = some (.inl (.int, 16, .inl (a 8))) ∧ h[b + 185]? = some (.inl (.int, 16, .inl (a 9))) ∧ h[b + 186]? = some (.inl (.int, 16, .inl (a 10))) ∧ h[b + 187]? = some (.inl (.int, 16, .inl (a 11))) ∧ h[b + 188]? = some (.inl (.int, 16, .inl (a 12))) ∧ h[b + 189]? = some (.inl (.int, 16, .inl (a 13))) ∧ h[b + 190]? = some (.inl (.int, 16, .inl (a 14))) ∧ h[b + 191]? = some (.inl (.int, 12000, .inl (a 16)))
def in_Program (b : Nat) : Nat → Prop := fun i => i = b ∨ i = b + 182 ∨ i = b + 183 ∨ i = b + 184 ∨ i = b + 185 ∨ i = b + 186 ∨ i = b + 187 ∨ i = b + 188 ∨ i = b + 189 ∨ i = b + 190 ∨ i = b + 191
theorem fr_Program {S : Nat → Prop} {h h1 : List ab_E} {b : Nat}  {s : Nat → Int32} {a : Nat → Nat → Int32} (hf : ab_fr S h h1) (h0 : at_Program h b  s a) (hn : ∀ i, in_Program b i → ¬ S i) : at_Program h1 b  s a := by
  obtain ⟨g0, g1, g2, g3, g4, g5, g6, g7, g8, g9, g10⟩ := h0
  exact ⟨ab_fr_at hf g0 (hn _ (by show _ ∨ _; omega)), ab_fr_at hf g1 (hn _ (by show _ ∨ _; omega)), ab_fr_at hf g2 (hn _ (by show _ ∨ _; omega)), ab_fr_at hf g3 (hn _ (by show _ ∨ _; omega)), ab_fr_at hf g4 (hn _ (by show _ ∨ _; omega)), ab_fr_at hf g5 (hn _ (by show _ ∨ _; omega)), ab_fr_at hf g6 (hn _ (by show _ ∨ _; omega)), ab_fr_at hf g7 (hn _ (by show _ ∨ _; omega)), ab_fr_at hf g8 (hn _ (by show _ ∨ _; omega)), ab_fr_at hf g9 (hn _ (by show _ ∨ _; omega)), ab_fr_at hf g10 (hn _ (by show _ ∨ _; omega))⟩
def sp_W_end (s : Nat → Int32) (a : Nat → Nat → Int32) (t : Nat → Int32) (d : Nat → Nat → Int32) (n : Int32) : Int32 × (Nat → Int32) × (Nat → Nat → Int32) := if n < (0 : Int32) then (0, t, d) else if n ≤ (t 1) then (1, upd t 1 (n), d) else (0, t, d)
set_option maxRecDepth 20000 in
set_option maxHeartbeats 2000000 in
theorem c_W_end {h : List ab_E} {x pr sp : Nat} {s : Nat → Int32} {a : Nat → Nat → Int32} {t : Nat → Int32} {d : Nat → Nat → Int32} {n : Int32} (hx : at_W h x pr sp s a) (hl : at_Lexer h (x + 1) t d)  : ab_M y_W_end { frames := 0, cells := 0, slots := 0, locals := 0 } [.ref x, .int n] h (ab_A (some (.int (sp_W_end s a t d n).1)) (fun h1 => at_Lexer h1 (x + 1) (sp_W_end s a t d n).2.1 (sp_W_end s a t d n).2.2 ∧ ab_fr (in_Lexer (x + 1)) h h1)) := by
  have hx0 := hx; have go : h[x]? = some (.inr (0, [.ref (x + 1), .ref (x + 8), .ref (x + 11), .ref (x + 131), .ref pr, .ref sp, .int (s 6), .int (s 7), .int (s 8)])) := hx
  have hl0 := hl; obtain ⟨fo, f0, f6, f7, f8, f9, f12⟩ := hl
  refine ab_of2 (lv := [some (.ref x), some (.int n)]) 0 rfl rfl (Nat.le_of_ble_eq_true rfl) ?_
  refine ab_iload_n d_W_end_0 rfl rfl ?_
  refine ab_if_lt (tgt := 15) d_W_end_1 (by decide) (fun q1 => ?_) (fun q1 => ?_)
  · refine ab_iconst (v := 0) d_W_end_15 (by decide) ?_
    exact ab_zret d_W_end_16 rfl rfl (Nat.le_refl _) (Nat.le_refl _) (by unfold sp_W_end; rw [if_pos q1]; exact ⟨rfl, ⟨fo, f0, f6, f7, f8, f9, f12⟩, (ab_fr_rf _ _)⟩)
  · refine ab_iload_n d_W_end_4 rfl rfl ?_
    refine ab_aload_n d_W_end_5 rfl rfl rfl ?_
    refine ab_get (f := 0) d_W_end_6 go rfl (by decide) (k3 157 rfl rfl) rfl ?_
    refine ab_get (f := 1) d_W_end_9 fo rfl (by decide) (k1 97 rfl rfl) rfl ?_
    refine ab_icmp_le (tgt := 17) d_W_end_12 (by decide) (fun q2 => ?_) (fun q2 => ?_)
    · refine ab_aload_n d_W_end_17 rfl rfl rfl ?_
      refine ab_get (f := 0) d_W_end_18 go rfl (by decide) (k3 157 rfl rfl) rfl ?_
      refine ab_iload_n d_W_end_21 rfl rfl ?_
      refine ab_put (f := 1) d_W_end_22 fo rfl (by decide) (k1 97 rfl rfl) rfl rfl (fun _ => rfl) (fun _ => rfl) (Nat.le_of_ble_eq_true rfl) ?_
      show ab_V _ _ _ _ _ _ _ 25 [some (.ref x), some (.int n)] [] (h.set (x+1) (.inr (1, [.ref (x + 1 + 1), .int n, .int (t 2), .int (t 3), .int (t 4), .int (t 5), .ref (x + 1 + 2), .ref (x + 1 + 3), .ref (x + 1 + 4), .ref (x + 1 + 5), .int (t 10), .int (t 11), .ref (x + 1 + 6)])))
      refine ab_gen (fun h3 e4 => ?_)
      have c5 : h3[x]? = some (.inr (0, [.ref (x + 1), .ref (x + 8), .ref (x + 11), .ref (x + 131), .ref pr, .ref sp, .int (s 6), .int (s 7), .int (s 8)])) := ab_other e4 (by omega) go
      have c6 : h3[x+1]? = some (.inr (1, [.ref (x + 1 + 1), .int n, .int (t 2), .int (t 3), .int (t 4), .int (t 5), .ref (x + 1 + 2), .ref (x + 1 + 3), .ref (x + 1 + 4), .ref (x + 1 + 5), .int (t 10), .int (t 11), .ref (x + 1 + 6)])) := ab_self e4 fo
      have c7 : h3[x+1+1]? = some (.inl (.byte, 6000, .inl (d 0))) := ab_other e4 (by omega) f0
      have c8 : h3[x+1+2]? = some (.inl (.int, 6001, .inl (d 6))) := ab_other e4 (by omega) f6
      have c9 : h3[x+1+3]? = some (.inl (.int, 6001, .inl (d 7))) := ab_other e4 (by omega) f7
      have c10 : h3[x+1+4]? = some (.inl (.int, 6001, .inl (d 8))) := ab_other e4 (by omega) f8
      have c11 : h3[x+1+5]? = some (.inl (.boolean, 6001, .inl (d 9))) := ab_other e4 (by omega) f9
      have c12 : h3[x+1+6]? = some (.inl (.int, 42, .inl (d 12))) := ab_other e4 (by omega) f12
      refine ab_iconst (v := 1) d_W_end_25 (by decide) ?_
      exact ab_zret d_W_end_26 rfl rfl (Nat.le_refl _) (Nat.le_refl _) (by unfold sp_W_end; rw [if_neg q1]; rw [if_pos q2]; exact ⟨rfl, ⟨c6, c7, c8, c9, c10, c11, c12⟩, (ab_fr_set (ab_fr_rf _ _) e4 (by first | (show _ ∧ _; omega) | (show _ ∨ _; omega) | (show _ = _; omega) | (show _ ≤ _; omega)))⟩)
    · refine ab_iconst (v := 0) d_W_end_15 (by decide) ?_
      exact ab_zret d_W_end_16 rfl rfl (Nat.le_refl _) (Nat.le_refl _) (by unfold sp_W_end; rw [if_neg q1]; rw [if_neg q2]; exact ⟨rfl, ⟨fo, f0, f6, f7, f8, f9, f12⟩, (ab_fr_rf _ _)⟩)
def sp_W_fault (s : Nat → Int32) (a : Nat → Nat → Int32) (t : Nat → Int32) (d : Nat → Nat → Int32) (n : Int32) : Int32 := if ¬ (t 4) = (0 : Int32) then if ¬ n = (0 : Int32) then if ¬ n = (1 : Int32) then ((-1)) else (t 4) else (t 5) else ((-1))
set_option maxRecDepth 20000 in
set_option maxHeartbeats 2000000 in
theorem c_W_fault {h : List ab_E} {x pr sp : Nat} {s : Nat → Int32} {a : Nat → Nat → Int32} {t : Nat → Int32} {d : Nat → Nat → Int32} {n : Int32} (hx : at_W h x pr sp s a) (hl : at_Lexer h (x + 1) t d)  : ab_M y_W_fault { frames := 0, cells := 0, slots := 0, locals := 0 } [.ref x, .int n] h (ab_A (some (.int (sp_W_fault s a t d n))) (fun h1 => h = h1)) := by
  have hx0 := hx; have go : h[x]? = some (.inr (0, [.ref (x + 1), .ref (x + 8), .ref (x + 11), .ref (x + 131), .ref pr, .ref sp, .int (s 6), .int (s 7), .int (s 8)])) := hx
  have hl0 := hl; obtain ⟨fo, f0, f6, f7, f8, f9, f12⟩ := hl
  refine ab_of2 (lv := [some (.ref x), some (.int n)]) 0 rfl rfl (Nat.le_of_ble_eq_true rfl) ?_
  refine ab_aload_n d_W_fault_0 rfl rfl rfl ?_
  refine ab_get (f := 0) d_W_fault_1 go rfl (by decide) (k3 157 rfl rfl) rfl ?_
  refine ab_get (f := 4) d_W_fault_4 fo rfl (by decide) (k1 105 rfl rfl) rfl ?_
  refine ab_if_ne (tgt := 12) d_W_fault_7 (by decide) (fun q1 => ?_) (fun q1 => ?_)
  · refine ab_iload_n d_W_fault_12 rfl rfl ?_
    refine ab_if_ne (tgt := 24) d_W_fault_13 (by decide) (fun q2 => ?_) (fun q2 => ?_)
    · refine ab_iload_n d_W_fault_24 rfl rfl ?_
      refine ab_iconst (v := 1) d_W_fault_25 (by decide) ?_
      refine ab_icmp_ne (tgt := 39) d_W_fault_26 (by decide) (fun q3 => ?_) (fun q3 => ?_)
      · refine ab_iconst (v := (-1)) d_W_fault_39 (by decide) ?_
        exact ab_iret d_W_fault_40 rfl (Nat.le_refl _) (Nat.le_refl _) (by unfold sp_W_fault; rw [if_pos q1]; rw [if_pos q2]; rw [if_pos q3]; exact ⟨rfl, rfl⟩)
      · refine ab_aload_n d_W_fault_29 rfl rfl rfl ?_
        refine ab_get (f := 0) d_W_fault_30 go rfl (by decide) (k3 157 rfl rfl) rfl ?_
        refine ab_get (f := 4) d_W_fault_33 fo rfl (by decide) (k1 105 rfl rfl) rfl ?_
        refine ab_goto (tgt := 40) d_W_fault_36 (by decide) ?_
        exact ab_iret d_W_fault_40 rfl (Nat.le_refl _) (Nat.le_refl _) (by unfold sp_W_fault; rw [if_pos q1]; rw [if_pos q2]; rw [if_neg (fun z => z q3)]; exact ⟨rfl, rfl⟩)
    · refine ab_aload_n d_W_fault_16 rfl rfl rfl ?_
      refine ab_get (f := 0) d_W_fault_17 go rfl (by decide) (k3 157 rfl rfl) rfl ?_
      refine ab_get (f := 5) d_W_fault_20 fo rfl (by decide) (k1 107 rfl rfl) rfl ?_
      exact ab_iret d_W_fault_23 rfl (Nat.le_refl _) (Nat.le_refl _) (by unfold sp_W_fault; rw [if_pos q1]; rw [if_neg (fun z => z q2)]; exact ⟨rfl, rfl⟩)
  · refine ab_iconst (v := (-1)) d_W_fault_10 (by decide) ?_
    exact ab_iret d_W_fault_11 rfl (Nat.le_refl _) (Nat.le_refl _) (by unfold sp_W_fault; rw [if_neg (fun z => z q1)]; exact ⟨rfl, rfl⟩)
def sp_W_isWorker (s : Nat → Int32) (a : Nat → Nat → Int32) (n : Int32) : Int32 := if n < (0 : Int32) then (0) else if (8 : Int32) ≤ n then (0) else (1)
set_option maxRecDepth 20000 in
set_option maxHeartbeats 2000000 in
theorem c_W_isWorker {h : List ab_E} {x pr sp : Nat} {s : Nat → Int32} {a : Nat → Nat → Int32} {n : Int32} (hx : at_W h x pr sp s a)  : ab_M y_W_isWorker { frames := 0, cells := 0, slots := 0, locals := 0 } [.ref x, .int n] h (ab_A (some (.int (sp_W_isWorker s a n))) (fun h1 => h = h1)) := by
  have hx0 := hx; have go : h[x]? = some (.inr (0, [.ref (x + 1), .ref (x + 8), .ref (x + 11), .ref (x + 131), .ref pr, .ref sp, .int (s 6), .int (s 7), .int (s 8)])) := hx
  refine ab_of2 (lv := [some (.ref x), some (.int n)]) 0 rfl rfl (Nat.le_of_ble_eq_true rfl) ?_
  refine ab_iload_n d_W_isWorker_0 rfl rfl ?_
  refine ab_if_lt (tgt := 14) d_W_isWorker_1 (by decide) (fun q1 => ?_) (fun q1 => ?_)
  · refine ab_iconst (v := 0) d_W_isWorker_14 (by decide) ?_
    exact ab_zret d_W_isWorker_15 rfl rfl (Nat.le_refl _) (Nat.le_refl _) (by unfold sp_W_isWorker; rw [if_pos q1]; exact ⟨rfl, rfl⟩)
  · refine ab_iload_n d_W_isWorker_4 rfl rfl ?_
    refine ab_bipush (v := 8) d_W_isWorker_5 (by decide) ?_
    refine ab_icmp_ge (tgt := 14) d_W_isWorker_7 (by decide) (fun q2 => ?_) (fun q2 => ?_)
    · refine ab_iconst (v := 0) d_W_isWorker_14 (by decide) ?_
      exact ab_zret d_W_isWorker_15 rfl rfl (Nat.le_refl _) (Nat.le_refl _) (by unfold sp_W_isWorker; rw [if_neg q1]; rw [if_pos q2]; exact ⟨rfl, rfl⟩)
    · refine ab_iconst (v := 1) d_W_isWorker_10 (by decide) ?_
      refine ab_goto (tgt := 15) d_W_isWorker_11 (by decide) ?_
      exact ab_zret d_W_isWorker_15 rfl rfl (Nat.le_refl _) (Nat.le_refl _) (by unfold sp_W_isWorker; rw [if_neg q1]; rw [if_neg q2]; exact ⟨rfl, rfl⟩)
def sp_W_fall (s : Nat → Int32) (a : Nat → Nat → Int32) (n : Int32) : Int32 × (Nat → Int32) × (Nat → Nat → Int32) := if (sp_W_isWorker s a n) = (0 : Int32) then (0, s, a) else if (((s 7) >>> (n &&& 31)) &&& 1) = (0 : Int32) then (0, s, a) else if ¬ (((s 8) >>> (n &&& 31)) &&& 1) = (1 : Int32) then (1, upd s 8 (((s 8) ||| (1 <<< (n &&& 31)))), a) else (0, s, a)
set_option maxRecDepth 20000 in
set_option maxHeartbeats 2000000 in
theorem c_W_fall {h : List ab_E} {x pr sp : Nat} {s : Nat → Int32} {a : Nat → Nat → Int32} {n : Int32} (hx : at_W h x pr sp s a)  : ab_M y_W_fall { frames := 1, cells := 0, slots := 0, locals := 40 } [.ref x, .int n] h (ab_A (some (.int (sp_W_fall s a n).1)) (fun h1 => at_W h1 x pr sp (sp_W_fall s a n).2.1 (sp_W_fall s a n).2.2 ∧ ab_fr (in_W x) h h1)) := by
  have hx0 := hx; have go : h[x]? = some (.inr (0, [.ref (x + 1), .ref (x + 8), .ref (x + 11), .ref (x + 131), .ref pr, .ref sp, .int (s 6), .int (s 7), .int (s 8)])) := hx
  refine ab_of2 (lv := [some (.ref x), some (.int n)]) 0 rfl rfl (Nat.le_of_ble_eq_true rfl) ?_
  refine ab_aload_n d_W_fall_0 rfl rfl rfl ?_
  refine ab_iload_n d_W_fall_1 rfl rfl ?_
  refine ab_callV_a (As := [.int n]) (rest := []) d_W_fall_2 (c_W_isWorker hx0) (ab_mkC s_W_isWorker (Nat.le_of_ble_eq_true rfl) (Nat.le_of_ble_eq_true rfl) (by decide) (by decide)) (k8 99 rfl rfl) i_W_isWorker v_W_isWorker go rfl rfl (Nat.le_of_ble_eq_true rfl) (fun h2 q1 => ?_)
  subst q1
  refine ab_if_eq (tgt := 31) d_W_fall_5 (by decide) (fun q3 => ?_) (fun q3 => ?_)
  · refine ab_iconst (v := 0) d_W_fall_31 (by decide) ?_
    exact ab_zret d_W_fall_32 rfl rfl (Nat.le_refl _) (Nat.le_refl _) (by unfold sp_W_fall; rw [if_pos q3]; exact ⟨rfl, go, (ab_fr_rf _ _)⟩)
  · refine ab_aload_n d_W_fall_8 rfl rfl rfl ?_
    refine ab_get (f := 7) d_W_fall_9 go rfl (by decide) (k3 164 rfl rfl) rfl ?_
    refine ab_iload_n d_W_fall_12 rfl rfl ?_
    refine ab_ishr d_W_fall_13 ?_
    refine ab_iconst (v := 1) d_W_fall_14 (by decide) ?_
    refine ab_iand d_W_fall_15 ?_
    refine ab_if_eq (tgt := 31) d_W_fall_16 (by decide) (fun q4 => ?_) (fun q4 => ?_)
    · refine ab_iconst (v := 0) d_W_fall_31 (by decide) ?_
      exact ab_zret d_W_fall_32 rfl rfl (Nat.le_refl _) (Nat.le_refl _) (by unfold sp_W_fall; rw [if_neg q3]; rw [if_pos q4]; exact ⟨rfl, go, (ab_fr_rf _ _)⟩)
    · refine ab_aload_n d_W_fall_19 rfl rfl rfl ?_
      refine ab_get (f := 8) d_W_fall_20 go rfl (by decide) (k3 165 rfl rfl) rfl ?_
      refine ab_iload_n d_W_fall_23 rfl rfl ?_
      refine ab_ishr d_W_fall_24 ?_
      refine ab_iconst (v := 1) d_W_fall_25 (by decide) ?_
      refine ab_iand d_W_fall_26 ?_
      refine ab_iconst (v := 1) d_W_fall_27 (by decide) ?_
      refine ab_icmp_ne (tgt := 33) d_W_fall_28 (by decide) (fun q5 => ?_) (fun q5 => ?_)
      · refine ab_aload_n d_W_fall_33 rfl rfl rfl ?_
        refine ab_dup d_W_fall_34 rfl ?_
        refine ab_get (f := 8) d_W_fall_35 go rfl (by decide) (k3 165 rfl rfl) rfl ?_
        refine ab_iconst (v := 1) d_W_fall_38 (by decide) ?_
        refine ab_iload_n d_W_fall_39 rfl rfl ?_
        refine ab_ishl d_W_fall_40 ?_
        refine ab_ior d_W_fall_41 ?_
        refine ab_topi (fun x6 ex6 => ?_)
        refine ab_put (f := 8) d_W_fall_42 go rfl (by decide) (k3 165 rfl rfl) rfl rfl (fun _ => rfl) (fun _ => rfl) (Nat.le_of_ble_eq_true rfl) ?_
        show ab_V _ _ _ _ _ _ _ 45 [some (.ref x), some (.int n)] [] (h.set x (.inr (0, [.ref (x + 1), .ref (x + 8), .ref (x + 11), .ref (x + 131), .ref pr, .ref sp, .int (s 6), .int (s 7), .int x6])))
        refine ab_gen (fun h7 e8 => ?_)
        have c9 : h7[x]? = some (.inr (0, [.ref (x + 1), .ref (x + 8), .ref (x + 11), .ref (x + 131), .ref pr, .ref sp, .int (s 6), .int (s 7), .int x6])) := ab_self e8 go
        refine ab_iconst (v := 1) d_W_fall_45 (by decide) ?_
        exact ab_zret d_W_fall_46 rfl rfl (Nat.le_refl _) (Nat.le_refl _) (by subst ex6; unfold sp_W_fall; rw [if_neg q3]; rw [if_neg q4]; rw [if_pos q5]; exact ⟨rfl, c9, (ab_fr_set (ab_fr_rf _ _) e8 (by first | (show _ ∧ _; omega) | (show _ ∨ _; omega) | (show _ = _; omega) | (show _ ≤ _; omega)))⟩)
      · refine ab_iconst (v := 0) d_W_fall_31 (by decide) ?_
        exact ab_zret d_W_fall_32 rfl rfl (Nat.le_refl _) (Nat.le_refl _) (by unfold sp_W_fall; rw [if_neg q3]; rw [if_neg q4]; rw [if_neg (fun z => z q5)]; exact ⟨rfl, go, (ab_fr_rf _ _)⟩)
def sp_W_stand (s : Nat → Int32) (a : Nat → Nat → Int32) (n : Int32) : Int32 × (Nat → Int32) × (Nat → Nat → Int32) := if ¬ (sp_W_isWorker s a n) = (0 : Int32) then if ¬ ((((s 7) &&& ((s 8) ^^^ (-1))) >>> (n &&& 31)) &&& 1) = (1 : Int32) then (1, upd (upd s 7 (((s 7) ||| (1 <<< (n &&& 31))))) 8 (((s 8) &&& ((1 <<< (n &&& 31)) ^^^ (-1)))), a) else (0, s, a) else (0, s, a)
set_option maxRecDepth 20000 in
set_option maxHeartbeats 2000000 in
theorem c_W_stand {h : List ab_E} {x pr sp : Nat} {s : Nat → Int32} {a : Nat → Nat → Int32} {n : Int32} (hx : at_W h x pr sp s a)  : ab_M y_W_stand { frames := 1, cells := 0, slots := 0, locals := 40 } [.ref x, .int n] h (ab_A (some (.int (sp_W_stand s a n).1)) (fun h1 => at_W h1 x pr sp (sp_W_stand s a n).2.1 (sp_W_stand s a n).2.2 ∧ ab_fr (in_W x) h h1)) := by
  have hx0 := hx; have go : h[x]? = some (.inr (0, [.ref (x + 1), .ref (x + 8), .ref (x + 11), .ref (x + 131), .ref pr, .ref sp, .int (s 6), .int (s 7), .int (s 8)])) := hx
  refine ab_of2 (lv := [some (.ref x), some (.int n)]) 0 rfl rfl (Nat.le_of_ble_eq_true rfl) ?_
  refine ab_aload_n d_W_stand_0 rfl rfl rfl ?_
  refine ab_iload_n d_W_stand_1 rfl rfl ?_
  refine ab_callV_a (As := [.int n]) (rest := []) d_W_stand_2 (c_W_isWorker hx0) (ab_mkC s_W_isWorker (Nat.le_of_ble_eq_true rfl) (Nat.le_of_ble_eq_true rfl) (by decide) (by decide)) (k8 99 rfl rfl) i_W_isWorker v_W_isWorker go rfl rfl (Nat.le_of_ble_eq_true rfl) (fun h2 q1 => ?_)
  subst q1
  refine ab_if_ne (tgt := 10) d_W_stand_5 (by decide) (fun q3 => ?_) (fun q3 => ?_)
  · refine ab_aload_n d_W_stand_10 rfl rfl rfl ?_
    refine ab_get (f := 7) d_W_stand_11 go rfl (by decide) (k3 164 rfl rfl) rfl ?_
    refine ab_aload_n d_W_stand_14 rfl rfl rfl ?_
    refine ab_get (f := 8) d_W_stand_15 go rfl (by decide) (k3 165 rfl rfl) rfl ?_
    refine ab_iconst (v := (-1)) d_W_stand_18 (by decide) ?_
    refine ab_ixor d_W_stand_19 ?_
    refine ab_iand d_W_stand_20 ?_
    refine ab_iload_n d_W_stand_21 rfl rfl ?_
    refine ab_ishr d_W_stand_22 ?_
    refine ab_iconst (v := 1) d_W_stand_23 (by decide) ?_
    refine ab_iand d_W_stand_24 ?_
    refine ab_iconst (v := 1) d_W_stand_25 (by decide) ?_
    refine ab_icmp_ne (tgt := 31) d_W_stand_26 (by decide) (fun q4 => ?_) (fun q4 => ?_)
    · refine ab_aload_n d_W_stand_31 rfl rfl rfl ?_
      refine ab_dup d_W_stand_32 rfl ?_
      refine ab_get (f := 7) d_W_stand_33 go rfl (by decide) (k3 164 rfl rfl) rfl ?_
      refine ab_iconst (v := 1) d_W_stand_36 (by decide) ?_
      refine ab_iload_n d_W_stand_37 rfl rfl ?_
      refine ab_ishl d_W_stand_38 ?_
      refine ab_ior d_W_stand_39 ?_
      refine ab_topi (fun x5 ex5 => ?_)
      refine ab_put (f := 7) d_W_stand_40 go rfl (by decide) (k3 164 rfl rfl) rfl rfl (fun _ => rfl) (fun _ => rfl) (Nat.le_of_ble_eq_true rfl) ?_
      show ab_V _ _ _ _ _ _ _ 43 [some (.ref x), some (.int n)] [] (h.set x (.inr (0, [.ref (x + 1), .ref (x + 8), .ref (x + 11), .ref (x + 131), .ref pr, .ref sp, .int (s 6), .int x5, .int (s 8)])))
      refine ab_gen (fun h6 e7 => ?_)
      have c8 : h6[x]? = some (.inr (0, [.ref (x + 1), .ref (x + 8), .ref (x + 11), .ref (x + 131), .ref pr, .ref sp, .int (s 6), .int x5, .int (s 8)])) := ab_self e7 go
      refine ab_aload_n d_W_stand_43 rfl rfl rfl ?_
      refine ab_dup d_W_stand_44 rfl ?_
      refine ab_get (f := 8) d_W_stand_45 c8 rfl (by decide) (k3 165 rfl rfl) rfl ?_
      refine ab_iconst (v := 1) d_W_stand_48 (by decide) ?_
      refine ab_iload_n d_W_stand_49 rfl rfl ?_
      refine ab_ishl d_W_stand_50 ?_
      refine ab_iconst (v := (-1)) d_W_stand_51 (by decide) ?_
      refine ab_ixor d_W_stand_52 ?_
      refine ab_iand d_W_stand_53 ?_
      refine ab_topi (fun x9 ex9 => ?_)
      refine ab_put (f := 8) d_W_stand_54 c8 rfl (by decide) (k3 165 rfl rfl) rfl rfl (fun _ => rfl) (fun _ => rfl) (Nat.le_of_ble_eq_true rfl) ?_
      show ab_V _ _ _ _ _ _ _ 57 [some (.ref x), some (.int n)] [] (h6.set x (.inr (0, [.ref (x + 1), .ref (x + 8), .ref (x + 11), .ref (x + 131), .ref pr, .ref sp, .int (s 6), .int x5, .int x9])))
      refine ab_gen (fun h10 e11 => ?_)
      have c12 : h10[x]? = some (.inr (0, [.ref (x + 1), .ref (x + 8), .ref (x + 11), .ref (x + 131), .ref pr, .ref sp, .int (s 6), .int x5, .int x9])) := ab_self e11 c8
      refine ab_iconst (v := 1) d_W_stand_57 (by decide) ?_
      exact ab_zret d_W_stand_58 rfl rfl (Nat.le_refl _) (Nat.le_refl _) (by subst ex5; subst ex9; unfold sp_W_stand; rw [if_pos q3]; rw [if_pos q4]; exact ⟨rfl, c12, (ab_fr_set (ab_fr_set (ab_fr_rf _ _) e7 (by first | (show _ ∧ _; omega) | (show _ ∨ _; omega) | (show _ = _; omega) | (show _ ≤ _; omega))) e11 (by first | (show _ ∧ _; omega) | (show _ ∨ _; omega) | (show _ = _; omega) | (show _ ≤ _; omega)))⟩)
    · refine ab_iconst (v := 0) d_W_stand_29 (by decide) ?_
      exact ab_zret d_W_stand_30 rfl rfl (Nat.le_refl _) (Nat.le_refl _) (by unfold sp_W_stand; rw [if_pos q3]; rw [if_neg (fun z => z q4)]; exact ⟨rfl, go, (ab_fr_rf _ _)⟩)
  · refine ab_iconst (v := 0) d_W_stand_8 (by decide) ?_
    exact ab_zret d_W_stand_9 rfl rfl (Nat.le_refl _) (Nat.le_refl _) (by unfold sp_W_stand; rw [if_neg (fun z => z q3)]; exact ⟨rfl, go, (ab_fr_rf _ _)⟩)
def sp_W_cut (s : Nat → Int32) (a : Nat → Nat → Int32) (t : Nat → Int32) (d : Nat → Nat → Int32) (n : Int32) : Int32 × (Nat → Int32) × (Nat → Nat → Int32) := if n < (0 : Int32) then (0, t, d) else if n ≤ (t 1) then (1, upd t 1 (n), d) else (0, t, d)
set_option maxRecDepth 20000 in
set_option maxHeartbeats 2000000 in
theorem c_W_cut {h : List ab_E} {x pr sp : Nat} {s : Nat → Int32} {a : Nat → Nat → Int32} {t : Nat → Int32} {d : Nat → Nat → Int32} {n : Int32} (hx : at_W h x pr sp s a) (hs : at_Store h (x + 131) t d)  : ab_M y_W_cut { frames := 0, cells := 0, slots := 0, locals := 0 } [.ref x, .int n] h (ab_A (some (.int (sp_W_cut s a t d n).1)) (fun h1 => at_Store h1 (x + 131) (sp_W_cut s a t d n).2.1 (sp_W_cut s a t d n).2.2 ∧ ab_fr (in_Store (x + 131)) h h1)) := by
  have hx0 := hx; have go : h[x]? = some (.inr (0, [.ref (x + 1), .ref (x + 8), .ref (x + 11), .ref (x + 131), .ref pr, .ref sp, .int (s 6), .int (s 7), .int (s 8)])) := hx
  have hs0 := hs; obtain ⟨fo, f0⟩ := hs
  refine ab_of2 (lv := [some (.ref x), some (.int n)]) 0 rfl rfl (Nat.le_of_ble_eq_true rfl) ?_
  refine ab_iload_n d_W_cut_0 rfl rfl ?_
  refine ab_if_lt (tgt := 15) d_W_cut_1 (by decide) (fun q1 => ?_) (fun q1 => ?_)
  · refine ab_iconst (v := 0) d_W_cut_15 (by decide) ?_
    exact ab_zret d_W_cut_16 rfl rfl (Nat.le_refl _) (Nat.le_refl _) (by unfold sp_W_cut; rw [if_pos q1]; exact ⟨rfl, ⟨fo, f0⟩, (ab_fr_rf _ _)⟩)
  · refine ab_iload_n d_W_cut_4 rfl rfl ?_
    refine ab_aload_n d_W_cut_5 rfl rfl rfl ?_
    refine ab_get (f := 3) d_W_cut_6 go rfl (by decide) (k3 160 rfl rfl) rfl ?_
    refine ab_get (f := 1) d_W_cut_9 fo rfl (by decide) (k2 189 rfl rfl) rfl ?_
    refine ab_icmp_le (tgt := 17) d_W_cut_12 (by decide) (fun q2 => ?_) (fun q2 => ?_)
    · refine ab_aload_n d_W_cut_17 rfl rfl rfl ?_
      refine ab_get (f := 3) d_W_cut_18 go rfl (by decide) (k3 160 rfl rfl) rfl ?_
      refine ab_iload_n d_W_cut_21 rfl rfl ?_
      refine ab_put (f := 1) d_W_cut_22 fo rfl (by decide) (k2 189 rfl rfl) rfl rfl (fun _ => rfl) (fun _ => rfl) (Nat.le_of_ble_eq_true rfl) ?_
      show ab_V _ _ _ _ _ _ _ 25 [some (.ref x), some (.int n)] [] (h.set (x+131) (.inr (11, [.ref (x + 131 + 1), .int n, .int (t 2), .int (t 3), .int (t 4), .int (t 5)])))
      refine ab_gen (fun h3 e4 => ?_)
      have c5 : h3[x]? = some (.inr (0, [.ref (x + 1), .ref (x + 8), .ref (x + 11), .ref (x + 131), .ref pr, .ref sp, .int (s 6), .int (s 7), .int (s 8)])) := ab_other e4 (by omega) go
      have c6 : h3[x+131]? = some (.inr (11, [.ref (x + 131 + 1), .int n, .int (t 2), .int (t 3), .int (t 4), .int (t 5)])) := ab_self e4 fo
      have c7 : h3[x+131+1]? = some (.inl (.byte, 60000, .inl (d 0))) := ab_other e4 (by omega) f0
      refine ab_iconst (v := 1) d_W_cut_25 (by decide) ?_
      exact ab_zret d_W_cut_26 rfl rfl (Nat.le_refl _) (Nat.le_refl _) (by unfold sp_W_cut; rw [if_neg q1]; rw [if_pos q2]; exact ⟨rfl, ⟨c6, c7⟩, (ab_fr_set (ab_fr_rf _ _) e4 (by first | (show _ ∧ _; omega) | (show _ ∨ _; omega) | (show _ = _; omega) | (show _ ≤ _; omega)))⟩)
    · refine ab_iconst (v := 0) d_W_cut_15 (by decide) ?_
      exact ab_zret d_W_cut_16 rfl rfl (Nat.le_refl _) (Nat.le_refl _) (by unfold sp_W_cut; rw [if_neg q1]; rw [if_neg q2]; exact ⟨rfl, ⟨fo, f0⟩, (ab_fr_rf _ _)⟩)
def sp_W_byteOut (s : Nat → Int32) (a : Nat → Nat → Int32) (t : Nat → Int32) (d : Nat → Nat → Int32) (n : Int32) : Int32 := if n < (0 : Int32) then ((-1)) else if n < (t 1) then (((d 0) (n).toNatClampNeg) &&& 255) else ((-1))
set_option maxRecDepth 20000 in
set_option maxHeartbeats 2000000 in
theorem c_W_byteOut {h : List ab_E} {x pr sp : Nat} {s : Nat → Int32} {a : Nat → Nat → Int32} {t : Nat → Int32} {d : Nat → Nat → Int32} {n : Int32} (hx : at_W h x pr sp s a) (hs : at_Store h (x + 131) t d) (ho : t 1 ≤ 60000) : ab_M y_W_byteOut { frames := 0, cells := 0, slots := 0, locals := 0 } [.ref x, .int n] h (ab_A (some (.int (sp_W_byteOut s a t d n))) (fun h1 => h = h1)) := by
  have hx0 := hx; have go : h[x]? = some (.inr (0, [.ref (x + 1), .ref (x + 8), .ref (x + 11), .ref (x + 131), .ref pr, .ref sp, .int (s 6), .int (s 7), .int (s 8)])) := hx
  have hs0 := hs; obtain ⟨fo, f0⟩ := hs
  refine ab_of2 (lv := [some (.ref x), some (.int n)]) 0 rfl rfl (Nat.le_of_ble_eq_true rfl) ?_
  refine ab_iload_n d_W_byteOut_0 rfl rfl ?_
  refine ab_if_lt (tgt := 15) d_W_byteOut_1 (by decide) (fun q1 => ?_) (fun q1 => ?_)
  · refine ab_iconst (v := (-1)) d_W_byteOut_15 (by decide) ?_
    exact ab_iret d_W_byteOut_16 rfl (Nat.le_refl _) (Nat.le_refl _) (by unfold sp_W_byteOut; rw [if_pos q1]; exact ⟨rfl, rfl⟩)
  · refine ab_iload_n d_W_byteOut_4 rfl rfl ?_
    refine ab_aload_n d_W_byteOut_5 rfl rfl rfl ?_
    refine ab_get (f := 3) d_W_byteOut_6 go rfl (by decide) (k3 160 rfl rfl) rfl ?_
    refine ab_get (f := 1) d_W_byteOut_9 fo rfl (by decide) (k2 189 rfl rfl) rfl ?_
    refine ab_icmp_lt (tgt := 17) d_W_byteOut_12 (by decide) (fun q2 => ?_) (fun q2 => ?_)
    · refine ab_aload_n d_W_byteOut_17 rfl rfl rfl ?_
      refine ab_get (f := 3) d_W_byteOut_18 go rfl (by decide) (k3 160 rfl rfl) rfl ?_
      refine ab_get (f := 0) d_W_byteOut_21 fo rfl (by decide) (k2 187 rfl rfl) rfl ?_
      refine ab_iload_n d_W_byteOut_24 rfl rfl ?_
      refine ab_bald d_W_byteOut_25 tB f0 (in_of (by decide) q1 (fun z => by have z1 := Int32.lt_of_lt_of_le q2 ho; exact absurd z (Int32.not_le.mpr z1))) ?_
      refine ab_sipush (v := 255) d_W_byteOut_26 (by decide) ?_
      refine ab_iand d_W_byteOut_29 ?_
      exact ab_iret d_W_byteOut_30 rfl (Nat.le_refl _) (Nat.le_refl _) (by unfold sp_W_byteOut; rw [if_neg q1]; rw [if_pos q2]; exact ⟨rfl, rfl⟩)
    · refine ab_iconst (v := (-1)) d_W_byteOut_15 (by decide) ?_
      exact ab_iret d_W_byteOut_16 rfl (Nat.le_refl _) (Nat.le_refl _) (by unfold sp_W_byteOut; rw [if_neg q1]; rw [if_neg q2]; exact ⟨rfl, rfl⟩)
def sp_W_bend (s : Nat → Int32) (a : Nat → Nat → Int32) (t : Nat → Int32) (d : Nat → Nat → Int32) (n u : Int32) : Int32 × (Nat → Int32) × (Nat → Nat → Int32) := if n < (0 : Int32) then (0, t, d) else if n < (t 1) then (1, t, upa d 0 (upd (d 0) (n).toNatClampNeg (vp_nar .byte (((((d 0) (n).toNatClampNeg) ^^^ ((u : Int32).toInt8.toInt32)) : Int32).toInt8.toInt32)))) else (0, t, d)
set_option maxRecDepth 20000 in
set_option maxHeartbeats 2000000 in
theorem c_W_bend {h : List ab_E} {x pr sp : Nat} {s : Nat → Int32} {a : Nat → Nat → Int32} {t : Nat → Int32} {d : Nat → Nat → Int32} {n u : Int32} (hx : at_W h x pr sp s a) (hs : at_Store h (x + 131) t d) (ho : t 1 ≤ 60000) : ab_M y_W_bend { frames := 0, cells := 0, slots := 0, locals := 0 } [.ref x, .int n, .int u] h (ab_A (some (.int (sp_W_bend s a t d n u).1)) (fun h1 => at_Store h1 (x + 131) (sp_W_bend s a t d n u).2.1 (sp_W_bend s a t d n u).2.2 ∧ ab_fr (in_Store (x + 131)) h h1)) := by
  have hx0 := hx; have go : h[x]? = some (.inr (0, [.ref (x + 1), .ref (x + 8), .ref (x + 11), .ref (x + 131), .ref pr, .ref sp, .int (s 6), .int (s 7), .int (s 8)])) := hx
  have hs0 := hs; obtain ⟨fo, f0⟩ := hs
  refine ab_of2 (lv := [some (.ref x), some (.int n), some (.int u)]) 0 rfl rfl (Nat.le_of_ble_eq_true rfl) ?_
  refine ab_iload_n d_W_bend_0 rfl rfl ?_
  refine ab_if_lt (tgt := 15) d_W_bend_1 (by decide) (fun q1 => ?_) (fun q1 => ?_)
  · refine ab_iconst (v := 0) d_W_bend_15 (by decide) ?_
    exact ab_zret d_W_bend_16 rfl rfl (Nat.le_refl _) (Nat.le_refl _) (by unfold sp_W_bend; rw [if_pos q1]; exact ⟨rfl, ⟨fo, f0⟩, (ab_fr_rf _ _)⟩)
  · refine ab_iload_n d_W_bend_4 rfl rfl ?_
    refine ab_aload_n d_W_bend_5 rfl rfl rfl ?_
    refine ab_get (f := 3) d_W_bend_6 go rfl (by decide) (k3 160 rfl rfl) rfl ?_
    refine ab_get (f := 1) d_W_bend_9 fo rfl (by decide) (k2 189 rfl rfl) rfl ?_
    refine ab_icmp_lt (tgt := 17) d_W_bend_12 (by decide) (fun q2 => ?_) (fun q2 => ?_)
    · refine ab_aload_n d_W_bend_17 rfl rfl rfl ?_
      refine ab_get (f := 3) d_W_bend_18 go rfl (by decide) (k3 160 rfl rfl) rfl ?_
      refine ab_get (f := 0) d_W_bend_21 fo rfl (by decide) (k2 187 rfl rfl) rfl ?_
      refine ab_iload_n d_W_bend_24 rfl rfl ?_
      refine ab_dup2_11 d_W_bend_25 rfl rfl ?_
      refine ab_bald d_W_bend_26 tB f0 (in_of (by decide) q1 (fun z => by have z1 := Int32.lt_of_lt_of_le q2 ho; exact absurd z (Int32.not_le.mpr z1))) ?_
      refine ab_iload_n d_W_bend_27 rfl rfl ?_
      refine ab_i2b d_W_bend_28 ?_
      refine ab_ixor d_W_bend_29 ?_
      refine ab_i2b d_W_bend_30 ?_
      refine ab_bast d_W_bend_31 tB f0 (in_of (by decide) q1 (fun z => by have z1 := Int32.lt_of_lt_of_le q2 ho; exact absurd z (Int32.not_le.mpr z1))) ?_
      refine ab_gen (fun h3 e4 => ?_)
      have c5 : h3[x]? = some (.inr (0, [.ref (x + 1), .ref (x + 8), .ref (x + 11), .ref (x + 131), .ref pr, .ref sp, .int (s 6), .int (s 7), .int (s 8)])) := ab_other e4 (by omega) go
      have c6 : h3[x+131]? = some (.inr (11, [.ref (x + 131 + 1), .int (t 1), .int (t 2), .int (t 3), .int (t 4), .int (t 5)])) := ab_other e4 (by omega) fo
      have c7 : h3[x+131+1]? = some (.inl (.byte, 60000, .inl (upd (d 0) (n).toNatClampNeg (vp_nar .byte (((((d 0) (n).toNatClampNeg) ^^^ ((u : Int32).toInt8.toInt32)) : Int32).toInt8.toInt32))))) := ab_self e4 f0
      refine ab_iconst (v := 1) d_W_bend_32 (by decide) ?_
      exact ab_zret d_W_bend_33 rfl rfl (Nat.le_refl _) (Nat.le_refl _) (by unfold sp_W_bend; rw [if_neg q1]; rw [if_pos q2]; exact ⟨rfl, ⟨c6, c7⟩, (ab_fr_set (ab_fr_rf _ _) e4 (by first | (show _ ∧ _; omega) | (show _ ∨ _; omega) | (show _ = _; omega) | (show _ ≤ _; omega)))⟩)
    · refine ab_iconst (v := 0) d_W_bend_15 (by decide) ?_
      exact ab_zret d_W_bend_16 rfl rfl (Nat.le_refl _) (Nat.le_refl _) (by unfold sp_W_bend; rw [if_neg q1]; rw [if_neg q2]; exact ⟨rfl, ⟨fo, f0⟩, (ab_fr_rf _ _)⟩)
def sp_W_group (s : Nat → Int32) (a : Nat → Nat → Int32) (t : Nat → Int32) (d : Nat → Nat → Int32) (n : Int32) : Int32 := if n < (0 : Int32) then ((-1)) else if n < (t 7) then ((d 14) (n).toNatClampNeg) else ((-1))
set_option maxRecDepth 20000 in
set_option maxHeartbeats 2000000 in
theorem c_W_group {h : List ab_E} {x pr sp : Nat} {s : Nat → Int32} {a : Nat → Nat → Int32} {t : Nat → Int32} {d : Nat → Nat → Int32} {n : Int32} (hx : at_W h x pr sp s a) (hg : at_Program h pr t d) (hg2 : t 7 ≤ 16) : ab_M y_W_group { frames := 0, cells := 0, slots := 0, locals := 0 } [.ref x, .int n] h (ab_A (some (.int (sp_W_group s a t d n))) (fun h1 => h = h1)) := by
  have hx0 := hx; have go : h[x]? = some (.inr (0, [.ref (x + 1), .ref (x + 8), .ref (x + 11), .ref (x + 131), .ref pr, .ref sp, .int (s 6), .int (s 7), .int (s 8)])) := hx
  have hg0 := hg; obtain ⟨fo, f5, f6, f8, f9, f10, f11, f12, f13, f14, f16⟩ := hg
  refine ab_of2 (lv := [some (.ref x), some (.int n)]) 0 rfl rfl (Nat.le_of_ble_eq_true rfl) ?_
  refine ab_iload_n d_W_group_0 rfl rfl ?_
  refine ab_if_lt (tgt := 15) d_W_group_1 (by decide) (fun q1 => ?_) (fun q1 => ?_)
  · refine ab_iconst (v := (-1)) d_W_group_15 (by decide) ?_
    exact ab_iret d_W_group_16 rfl (Nat.le_refl _) (Nat.le_refl _) (by unfold sp_W_group; rw [if_pos q1]; exact ⟨rfl, rfl⟩)
  · refine ab_iload_n d_W_group_4 rfl rfl ?_
    refine ab_aload_n d_W_group_5 rfl rfl rfl ?_
    refine ab_get (f := 4) d_W_group_6 go rfl (by decide) (k3 161 rfl rfl) rfl ?_
    refine ab_get (f := 7) d_W_group_9 fo rfl (by decide) (k3 82 rfl rfl) rfl ?_
    refine ab_icmp_lt (tgt := 17) d_W_group_12 (by decide) (fun q2 => ?_) (fun q2 => ?_)
    · refine ab_aload_n d_W_group_17 rfl rfl rfl ?_
      refine ab_get (f := 4) d_W_group_18 go rfl (by decide) (k3 161 rfl rfl) rfl ?_
      refine ab_get (f := 14) d_W_group_21 fo rfl (by decide) (k3 106 rfl rfl) rfl ?_
      refine ab_iload_n d_W_group_24 rfl rfl ?_
      refine ab_iald d_W_group_25 tI f14 (in_of (by decide) q1 (fun z => by have z1 := Int32.lt_of_lt_of_le q2 hg2; exact absurd z (Int32.not_le.mpr z1))) ?_
      exact ab_iret d_W_group_26 rfl (Nat.le_refl _) (Nat.le_refl _) (by unfold sp_W_group; rw [if_neg q1]; rw [if_pos q2]; exact ⟨rfl, rfl⟩)
    · refine ab_iconst (v := (-1)) d_W_group_15 (by decide) ?_
      exact ab_iret d_W_group_16 rfl (Nat.le_refl _) (Nat.le_refl _) (by unfold sp_W_group; rw [if_neg q1]; rw [if_neg q2]; exact ⟨rfl, rfl⟩)
set_option maxRecDepth 20000 in
set_option maxHeartbeats 2000000 in
theorem c_W_pace {h : List ab_E} {x pr sp : Nat} {s : Nat → Int32} {a : Nat → Nat → Int32} {n : Int32} (hx : at_W h x pr sp s a)  : ab_M y_W_pace { frames := 0, cells := 0, slots := 0, locals := 0 } [.ref x, .int n] h (ab_A none (fun h1 => h = h1)) := by
  have hx0 := hx; have go : h[x]? = some (.inr (0, [.ref (x + 1), .ref (x + 8), .ref (x + 11), .ref (x + 131), .ref pr, .ref sp, .int (s 6), .int (s 7), .int (s 8)])) := hx
  refine ab_of2 (lv := [some (.ref x), some (.int n)]) 0 rfl rfl (Nat.le_of_ble_eq_true rfl) ?_
  exact ab_vret d_W_pace_0 rfl (Nat.le_refl _) (Nat.le_refl _) ⟨rfl, rfl⟩
set_option maxRecDepth 20000 in
set_option maxHeartbeats 2000000 in
theorem c_W_exchangePrograms {h : List ab_E} {x pr sp : Nat} {s : Nat → Int32} {a : Nat → Nat → Int32}  (hx : at_W h x pr sp s a)  : ab_M y_W_exchangePrograms { frames := 0, cells := 0, slots := 0, locals := 0 } [.ref x] h (ab_A none (fun h1 => at_W h1 x sp pr (upd s 6 1) a ∧ ab_fr (in_W x) h h1)) := by
  have hx0 := hx; have go : h[x]? = some (.inr (0, [.ref (x + 1), .ref (x + 8), .ref (x + 11), .ref (x + 131), .ref pr, .ref sp, .int (s 6), .int (s 7), .int (s 8)])) := hx
  refine ab_of2 (lv := [some (.ref x), none]) 1 rfl rfl (Nat.le_of_ble_eq_true rfl) ?_
  refine ab_aload_n d_W_exchangePrograms_0 rfl rfl rfl ?_
  refine ab_get (f := 5) d_W_exchangePrograms_1 go rfl (by decide) (k3 162 rfl rfl) rfl ?_
  refine ab_astore_n (lv' := [some (.ref x), some (.ref sp)]) d_W_exchangePrograms_4 rfl (by decide) rfl rfl ?_
  refine ab_aload_n d_W_exchangePrograms_5 rfl rfl rfl ?_
  refine ab_aload_n d_W_exchangePrograms_6 rfl rfl rfl ?_
  refine ab_get (f := 4) d_W_exchangePrograms_7 go rfl (by decide) (k3 161 rfl rfl) rfl ?_
  refine ab_put (f := 5) d_W_exchangePrograms_10 go rfl (by decide) (k3 162 rfl rfl) rfl rfl (fun _ => rfl) (fun _ => rfl) (Nat.le_of_ble_eq_true rfl) ?_
  show ab_V _ _ _ _ _ _ _ 13 [some (.ref x), some (.ref sp)] [] (h.set x (.inr (0, [.ref (x + 1), .ref (x + 8), .ref (x + 11), .ref (x + 131), .ref pr, .ref pr, .int (s 6), .int (s 7), .int (s 8)])))
  refine ab_gen (fun h1 e2 => ?_)
  have c3 : h1[x]? = some (.inr (0, [.ref (x + 1), .ref (x + 8), .ref (x + 11), .ref (x + 131), .ref pr, .ref pr, .int (s 6), .int (s 7), .int (s 8)])) := ab_self e2 go
  refine ab_aload_n d_W_exchangePrograms_13 rfl rfl rfl ?_
  refine ab_aload_n d_W_exchangePrograms_14 rfl rfl rfl ?_
  refine ab_put (f := 4) d_W_exchangePrograms_15 c3 rfl (by decide) (k3 161 rfl rfl) rfl rfl (fun _ => rfl) (fun _ => rfl) (Nat.le_of_ble_eq_true rfl) ?_
  show ab_V _ _ _ _ _ _ _ 18 [some (.ref x), some (.ref sp)] [] (h1.set x (.inr (0, [.ref (x + 1), .ref (x + 8), .ref (x + 11), .ref (x + 131), .ref sp, .ref pr, .int (s 6), .int (s 7), .int (s 8)])))
  refine ab_gen (fun h4 e5 => ?_)
  have c6 : h4[x]? = some (.inr (0, [.ref (x + 1), .ref (x + 8), .ref (x + 11), .ref (x + 131), .ref sp, .ref pr, .int (s 6), .int (s 7), .int (s 8)])) := ab_self e5 c3
  refine ab_aload_n d_W_exchangePrograms_18 rfl rfl rfl ?_
  refine ab_iconst (v := 1) d_W_exchangePrograms_19 (by decide) ?_
  refine ab_put (f := 6) d_W_exchangePrograms_20 c6 rfl (by decide) (k3 163 rfl rfl) rfl rfl (fun _ => rfl) (fun _ => rfl) (Nat.le_of_ble_eq_true rfl) ?_
  show ab_V _ _ _ _ _ _ _ 23 [some (.ref x), some (.ref sp)] [] (h4.set x (.inr (0, [.ref (x + 1), .ref (x + 8), .ref (x + 11), .ref (x + 131), .ref sp, .ref pr, .int 1, .int (s 7), .int (s 8)])))
  refine ab_gen (fun h7 e8 => ?_)
  have c9 : h7[x]? = some (.inr (0, [.ref (x + 1), .ref (x + 8), .ref (x + 11), .ref (x + 131), .ref sp, .ref pr, .int 1, .int (s 7), .int (s 8)])) := ab_self e8 c6
  exact ab_vret d_W_exchangePrograms_23 rfl (Nat.le_refl _) (Nat.le_refl _) ⟨rfl, c9, (ab_fr_set (ab_fr_set (ab_fr_set (ab_fr_rf _ _) e2 (by first | (show _ ∧ _; omega) | (show _ ∨ _; omega) | (show _ = _; omega) | (show _ ≤ _; omega))) e5 (by first | (show _ ∧ _; omega) | (show _ ∨ _; omega) | (show _ = _; omega) | (show _ ≤ _; omega))) e8 (by first | (show _ ∧ _; omega) | (show _ ∨ _; omega) | (show _ = _; omega) | (show _ ≤ _; omega)))⟩
