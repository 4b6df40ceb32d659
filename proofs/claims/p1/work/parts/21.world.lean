/-- a World at w: its scalars by the numbers of their fields, its arrays likewise -/
def at_World (h : List ab_E) (w : Nat) (s : Nat → Int32) (a : Nat → Nat → Int32) : Prop :=
  h[w]? = some (.inr (7, [.int (s 0), .int (s 1), .int (s 2), .int (s 3), .int (s 4), .int (s 5), .int (s 6), .ref (w + 1), .ref (w + 2), .int (s 9), .int (s 10), .ref (w + 3), .ref (w + 4), .int (s 13), .ref (w + 5), .int (s 15)])) ∧ h[w + 1]? = some (.inl (.int, 256, .inl (a 7))) ∧ h[w + 2]? = some (.inl (.int, 256, .inl (a 8))) ∧ h[w + 3]? = some (.inl (.int, 12288, .inl (a 11))) ∧ h[w + 4]? = some (.inl (.int, 1792, .inl (a 12))) ∧ h[w + 5]? = some (.inl (.int, 32, .inl (a 14)))
/-- the cells of a World -/
def in_World (w : Nat) : Nat → Prop := fun i => w ≤ i ∧ i ≤ w + 5
def upa (a : Nat → Nat → Int32) (k : Nat) (f : Nat → Int32) : Nat → Nat → Int32 := fun j => if j = k then f else a j
set_option maxRecDepth 20000 in
set_option maxHeartbeats 2000000 in
theorem c_Math_max {h : List ab_E} {p q : Int32}  : ab_M y_Math_max { frames := 0, cells := 0, slots := 0, locals := 0 } [.int p, .int q] h (ab_A (some (.int (if p < q then q else p))) (fun h1 => h = h1)) := by
  refine ab_of2 (lv := [some (.int p), some (.int q)]) 0 rfl (by decide +kernel) (Nat.le_of_ble_eq_true rfl) ?_
  refine ab_iload_n d_Math_max_0 rfl rfl ?_
  refine ab_iload_n d_Math_max_1 rfl rfl ?_
  refine ab_icmp_lt (tgt := 9) d_Math_max_2 (by decide) (fun q1 => ?_) (fun q1 => ?_)
  · refine ab_iload_n d_Math_max_9 rfl rfl ?_
    exact ab_iret d_Math_max_10 rfl (Nat.le_refl _) (Nat.le_refl _) ⟨by first | rw [if_pos (by assumption)] | rw [if_neg (by assumption)], rfl⟩
  · refine ab_iload_n d_Math_max_5 rfl rfl ?_
    refine ab_goto (tgt := 10) d_Math_max_6 (by decide) ?_
    exact ab_iret d_Math_max_10 rfl (Nat.le_refl _) (Nat.le_refl _) ⟨by first | rw [if_pos (by assumption)] | rw [if_neg (by assumption)], rfl⟩
set_option maxRecDepth 20000 in
set_option maxHeartbeats 2000000 in
theorem c_Math_min {h : List ab_E} {p q : Int32}  : ab_M y_Math_min { frames := 0, cells := 0, slots := 0, locals := 0 } [.int p, .int q] h (ab_A (some (.int (if q < p then q else p))) (fun h1 => h = h1)) := by
  refine ab_of2 (lv := [some (.int p), some (.int q)]) 0 rfl (by decide +kernel) (Nat.le_of_ble_eq_true rfl) ?_
  refine ab_iload_n d_Math_min_0 rfl rfl ?_
  refine ab_iload_n d_Math_min_1 rfl rfl ?_
  refine ab_icmp_gt (tgt := 9) d_Math_min_2 (by decide) (fun q1 => ?_) (fun q1 => ?_)
  · refine ab_iload_n d_Math_min_9 rfl rfl ?_
    exact ab_iret d_Math_min_10 rfl (Nat.le_refl _) (Nat.le_refl _) ⟨by first | rw [if_pos (by assumption)] | rw [if_neg (by assumption)], rfl⟩
  · refine ab_iload_n d_Math_min_5 rfl rfl ?_
    refine ab_goto (tgt := 10) d_Math_min_6 (by decide) ?_
    exact ab_iret d_Math_min_10 rfl (Nat.le_refl _) (Nat.le_refl _) ⟨by first | rw [if_pos (by assumption)] | rw [if_neg (by assumption)], rfl⟩
set_option maxRecDepth 20000 in
set_option maxHeartbeats 2000000 in
theorem c_World_numberAt {h : List ab_E} {w : Nat} {s : Nat → Int32} {a : Nat → Nat → Int32} {p : Int32} (hw : at_World h w s a) (hp : vp_in p 256) : ab_M y_World_numberAt { frames := 0, cells := 0, slots := 0, locals := 0 } [.ref w, .int p] h (ab_A (some (.int (256 * a 7 p.toNatClampNeg + p))) (fun h1 => h = h1)) := by
  have hw0 := hw; obtain ⟨g0, g7, g8, g11, g12, g14⟩ := hw
  refine ab_of2 (lv := [some (.ref w), some (.int p)]) 0 rfl rfl (Nat.le_of_ble_eq_true rfl) ?_
  refine ab_sipush (v := 256) d_World_numberAt_0 (by decide) ?_
  refine ab_aload_n d_World_numberAt_3 rfl rfl rfl ?_
  refine ab_get (f := 7) d_World_numberAt_4 g0 rfl (by decide) (k1 227 rfl rfl) rfl ?_
  refine ab_iload_n d_World_numberAt_7 rfl rfl ?_
  refine ab_iald d_World_numberAt_8 tI g7 hp ?_
  refine ab_imul d_World_numberAt_9 ?_
  refine ab_iload_n d_World_numberAt_10 rfl rfl ?_
  refine ab_iadd d_World_numberAt_11 ?_
  exact ab_iret d_World_numberAt_12 rfl (Nat.le_refl _) (Nat.le_refl _) ⟨rfl, rfl⟩
def sp_placeOf (a : Nat → Nat → Int32) (n : Int32) : Int32 := if ¬ a 8 (n &&& 255).toNatClampNeg < 0 ∧ ¬ n < 0 ∧ (n.toUInt32 >>> ((8 : Int32).toUInt32 &&& Int32.toUInt32 31)).toInt32 = a 7 (n &&& 255).toNatClampNeg then n &&& 255 else -1
theorem in255 (n : Int32) : vp_in (n &&& 255) 256 := pk_andIn n 8 (by decide) (by decide)
set_option maxRecDepth 20000 in
set_option maxHeartbeats 2000000 in
theorem c_World_placeOf {h : List ab_E} {w : Nat} {s : Nat → Int32} {a : Nat → Nat → Int32} {n : Int32} (hw : at_World h w s a) : ab_M y_World_placeOf { frames := 0, cells := 0, slots := 0, locals := 0 } [.ref w, .int n] h (ab_A (some (.int (sp_placeOf a n))) (fun h1 => h = h1)) := by
  have hw0 := hw; obtain ⟨g0, g7, g8, g11, g12, g14⟩ := hw
  refine ab_of2 (lv := [some (.ref w), some (.int n), none]) 1 rfl rfl (Nat.le_of_ble_eq_true rfl) ?_
  refine ab_iload_n d_World_placeOf_0 rfl rfl ?_
  refine ab_sipush (v := 255) d_World_placeOf_1 (by decide) ?_
  refine ab_iand d_World_placeOf_4 ?_
  refine ab_istore_n (lv' := [some (.ref w), some (.int n), some (.int (n &&& 255))]) d_World_placeOf_5 rfl (by decide) rfl ?_
  refine ab_aload_n d_World_placeOf_6 rfl rfl rfl ?_
  refine ab_get (f := 8) d_World_placeOf_7 g0 rfl (by decide) (k1 229 rfl rfl) rfl ?_
  refine ab_iload_n d_World_placeOf_10 rfl rfl ?_
  refine ab_iald d_World_placeOf_11 tI g8 (in255 n) ?_
  refine ab_if_lt (tgt := 36) d_World_placeOf_12 (by decide) (fun q1 => ?_) (fun q1 => ?_)
  · refine ab_iconst (v := (-1)) d_World_placeOf_36 (by decide) ?_
    exact ab_iret d_World_placeOf_37 rfl (Nat.le_refl _) (Nat.le_refl _) ⟨by simp_all [sp_placeOf], rfl⟩
  · refine ab_iload_n d_World_placeOf_15 rfl rfl ?_
    refine ab_if_lt (tgt := 36) d_World_placeOf_16 (by decide) (fun q2 => ?_) (fun q2 => ?_)
    · refine ab_iconst (v := (-1)) d_World_placeOf_36 (by decide) ?_
      exact ab_iret d_World_placeOf_37 rfl (Nat.le_refl _) (Nat.le_refl _) ⟨by simp_all [sp_placeOf], rfl⟩
    · refine ab_iload_n d_World_placeOf_19 rfl rfl ?_
      refine ab_bipush (v := 8) d_World_placeOf_20 (by decide) ?_
      refine ab_iushr d_World_placeOf_22 ?_
      refine ab_aload_n d_World_placeOf_23 rfl rfl rfl ?_
      refine ab_get (f := 7) d_World_placeOf_24 g0 rfl (by decide) (k1 227 rfl rfl) rfl ?_
      refine ab_iload_n d_World_placeOf_27 rfl rfl ?_
      refine ab_iald d_World_placeOf_28 tI g7 (in255 n) ?_
      refine ab_icmp_ne (tgt := 36) d_World_placeOf_29 (by decide) (fun q3 => ?_) (fun q3 => ?_)
      · refine ab_iconst (v := (-1)) d_World_placeOf_36 (by decide) ?_
        exact ab_iret d_World_placeOf_37 rfl (Nat.le_refl _) (Nat.le_refl _) ⟨by simp_all [sp_placeOf], rfl⟩
      · refine ab_iload_n d_World_placeOf_32 rfl rfl ?_
        refine ab_goto (tgt := 37) d_World_placeOf_33 (by decide) ?_
        exact ab_iret d_World_placeOf_37 rfl (Nat.le_refl _) (Nat.le_refl _) ⟨by simp_all [sp_placeOf], rfl⟩
theorem in_of {x : Int32} {n : Nat} (hn : n < 2 ^ 31) (h0 : ¬ x < 0) (h1 : ¬ nI n ≤ x) : vp_in x n := by
  rcases pk_ix x hn with q | q | ⟨j, hj, rfl⟩
  · exact absurd q h0
  · exact absurd q h1
  · exact vp_in_nI hj hn
def sp_owns (a : Nat → Nat → Int32) (p c : Int32) : Int32 := if ¬ p < 0 ∧ ¬ (256 : Int32) ≤ p ∧ ¬ a 8 p.toNatClampNeg < 0 ∧ (a 8 p.toNatClampNeg >>> (c &&& 31)) &&& 1 = 1 then 1 else 0
set_option maxRecDepth 20000 in
set_option maxHeartbeats 2000000 in
theorem c_World_owns {h : List ab_E} {w : Nat} {s : Nat → Int32} {a : Nat → Nat → Int32} {p c : Int32} (hw : at_World h w s a) : ab_M y_World_owns { frames := 0, cells := 0, slots := 0, locals := 0 } [.ref w, .int p, .int c] h (ab_A (some (.int (sp_owns a p c))) (fun h1 => h = h1)) := by
  have hw0 := hw; obtain ⟨g0, g7, g8, g11, g12, g14⟩ := hw
  refine ab_of2 (lv := [some (.ref w), some (.int p), some (.int c)]) 0 rfl rfl (Nat.le_of_ble_eq_true rfl) ?_
  refine ab_iload_n d_World_owns_0 rfl rfl ?_
  refine ab_if_lt (tgt := 38) d_World_owns_1 (by decide) (fun q1 => ?_) (fun q1 => ?_)
  · refine ab_iconst (v := 0) d_World_owns_38 (by decide) ?_
    exact ab_zret d_World_owns_39 rfl rfl (Nat.le_refl _) (Nat.le_refl _) ⟨by simp_all [sp_owns], rfl⟩
  · refine ab_iload_n d_World_owns_4 rfl rfl ?_
    refine ab_sipush (v := 256) d_World_owns_5 (by decide) ?_
    refine ab_icmp_ge (tgt := 38) d_World_owns_8 (by decide) (fun q2 => ?_) (fun q2 => ?_)
    · refine ab_iconst (v := 0) d_World_owns_38 (by decide) ?_
      exact ab_zret d_World_owns_39 rfl rfl (Nat.le_refl _) (Nat.le_refl _) ⟨by simp_all [sp_owns], rfl⟩
    · refine ab_aload_n d_World_owns_11 rfl rfl rfl ?_
      refine ab_get (f := 8) d_World_owns_12 g0 rfl (by decide) (k1 229 rfl rfl) rfl ?_
      refine ab_iload_n d_World_owns_15 rfl rfl ?_
      refine ab_iald d_World_owns_16 tI g8 (in_of (by decide) q1 q2) ?_
      refine ab_if_lt (tgt := 38) d_World_owns_17 (by decide) (fun q3 => ?_) (fun q3 => ?_)
      · refine ab_iconst (v := 0) d_World_owns_38 (by decide) ?_
        exact ab_zret d_World_owns_39 rfl rfl (Nat.le_refl _) (Nat.le_refl _) ⟨by simp_all [sp_owns], rfl⟩
      · refine ab_aload_n d_World_owns_20 rfl rfl rfl ?_
        refine ab_get (f := 8) d_World_owns_21 g0 rfl (by decide) (k1 229 rfl rfl) rfl ?_
        refine ab_iload_n d_World_owns_24 rfl rfl ?_
        refine ab_iald d_World_owns_25 tI g8 (in_of (by decide) q1 q2) ?_
        refine ab_iload_n d_World_owns_26 rfl rfl ?_
        refine ab_ishr d_World_owns_27 ?_
        refine ab_iconst (v := 1) d_World_owns_28 (by decide) ?_
        refine ab_iand d_World_owns_29 ?_
        refine ab_iconst (v := 1) d_World_owns_30 (by decide) ?_
        refine ab_icmp_ne (tgt := 38) d_World_owns_31 (by decide) (fun q4 => ?_) (fun q4 => ?_)
        · refine ab_iconst (v := 0) d_World_owns_38 (by decide) ?_
          exact ab_zret d_World_owns_39 rfl rfl (Nat.le_refl _) (Nat.le_refl _) ⟨by simp_all [sp_owns], rfl⟩
        · refine ab_iconst (v := 1) d_World_owns_34 (by decide) ?_
          refine ab_goto (tgt := 39) d_World_owns_35 (by decide) ?_
          exact ab_zret d_World_owns_39 rfl rfl (Nat.le_refl _) (Nat.le_refl _) ⟨by simp_all [sp_owns], rfl⟩
def sp_matches (a : Nat → Nat → Int32) (p e w : Int32) : Int32 := if ¬ a 8 p.toNatClampNeg < 0 ∧ a 8 p.toNatClampNeg &&& e = e ∧ a 8 p.toNatClampNeg &&& w = 0 then 1 else 0
set_option maxRecDepth 20000 in
set_option maxHeartbeats 2000000 in
theorem c_World_matches {h : List ab_E} {w : Nat} {s : Nat → Int32} {a : Nat → Nat → Int32} {p e u : Int32} (hw : at_World h w s a) (hp : vp_in p 256) : ab_M y_World_matches { frames := 0, cells := 0, slots := 0, locals := 0 } [.ref w, .int p, .int e, .int u] h (ab_A (some (.int (sp_matches a p e u))) (fun h1 => h = h1)) := by
  have hw0 := hw; obtain ⟨g0, g7, g8, g11, g12, g14⟩ := hw
  refine ab_of2 (lv := [some (.ref w), some (.int p), some (.int e), some (.int u)]) 0 rfl rfl (Nat.le_of_ble_eq_true rfl) ?_
  refine ab_aload_n d_World_matches_0 rfl rfl rfl ?_
  refine ab_get (f := 8) d_World_matches_1 g0 rfl (by decide) (k1 229 rfl rfl) rfl ?_
  refine ab_iload_n d_World_matches_4 rfl rfl ?_
  refine ab_iald d_World_matches_5 tI g8 hp ?_
  refine ab_if_lt (tgt := 36) d_World_matches_6 (by decide) (fun q1 => ?_) (fun q1 => ?_)
  · refine ab_iconst (v := 0) d_World_matches_36 (by decide) ?_
    exact ab_zret d_World_matches_37 rfl rfl (Nat.le_refl _) (Nat.le_refl _) ⟨by simp_all [sp_matches], rfl⟩
  · refine ab_aload_n d_World_matches_9 rfl rfl rfl ?_
    refine ab_get (f := 8) d_World_matches_10 g0 rfl (by decide) (k1 229 rfl rfl) rfl ?_
    refine ab_iload_n d_World_matches_13 rfl rfl ?_
    refine ab_iald d_World_matches_14 tI g8 hp ?_
    refine ab_iload_n d_World_matches_15 rfl rfl ?_
    refine ab_iand d_World_matches_16 ?_
    refine ab_iload_n d_World_matches_17 rfl rfl ?_
    refine ab_icmp_ne (tgt := 36) d_World_matches_18 (by decide) (fun q2 => ?_) (fun q2 => ?_)
    · refine ab_iconst (v := 0) d_World_matches_36 (by decide) ?_
      exact ab_zret d_World_matches_37 rfl rfl (Nat.le_refl _) (Nat.le_refl _) ⟨by simp_all [sp_matches], rfl⟩
    · refine ab_aload_n d_World_matches_21 rfl rfl rfl ?_
      refine ab_get (f := 8) d_World_matches_22 g0 rfl (by decide) (k1 229 rfl rfl) rfl ?_
      refine ab_iload_n d_World_matches_25 rfl rfl ?_
      refine ab_iald d_World_matches_26 tI g8 hp ?_
      refine ab_iload_n d_World_matches_27 rfl rfl ?_
      refine ab_iand d_World_matches_28 ?_
      refine ab_if_ne (tgt := 36) d_World_matches_29 (by decide) (fun q3 => ?_) (fun q3 => ?_)
      · refine ab_iconst (v := 0) d_World_matches_36 (by decide) ?_
        exact ab_zret d_World_matches_37 rfl rfl (Nat.le_refl _) (Nat.le_refl _) ⟨by simp_all [sp_matches], rfl⟩
      · refine ab_iconst (v := 1) d_World_matches_32 (by decide) ?_
        refine ab_goto (tgt := 37) d_World_matches_33 (by decide) ?_
        exact ab_zret d_World_matches_37 rfl rfl (Nat.le_refl _) (Nat.le_refl _) ⟨by simp_all [sp_matches], rfl⟩
def sp_read (s : Nat → Int32) (a : Nat → Nat → Int32) (p c : Int32) : Int32 := if ¬ p < 0 ∧ ¬ p * s 10 + c < 0 ∧ ¬ (12288 : Int32) ≤ p * s 10 + c then a 11 (p * s 10 + c).toNatClampNeg else 0
set_option maxRecDepth 20000 in
set_option maxHeartbeats 2000000 in
theorem c_World_read {h : List ab_E} {w : Nat} {s : Nat → Int32} {a : Nat → Nat → Int32} {p c : Int32} (hw : at_World h w s a) : ab_M y_World_read { frames := 0, cells := 0, slots := 0, locals := 0 } [.ref w, .int p, .int c] h (ab_A (some (.int (sp_read s a p c))) (fun h1 => h = h1)) := by
  have hw0 := hw; obtain ⟨g0, g7, g8, g11, g12, g14⟩ := hw
  refine ab_of2 (lv := [some (.ref w), some (.int p), some (.int c), none]) 1 rfl rfl (Nat.le_of_ble_eq_true rfl) ?_
  refine ab_iload_n d_World_read_0 rfl rfl ?_
  refine ab_aload_n d_World_read_1 rfl rfl rfl ?_
  refine ab_get (f := 10) d_World_read_2 g0 rfl (by decide) (k1 234 rfl rfl) rfl ?_
  refine ab_imul d_World_read_5 ?_
  refine ab_iload_n d_World_read_6 rfl rfl ?_
  refine ab_iadd d_World_read_7 ?_
  refine ab_topi (fun x1 ex1 => ?_)
  refine ab_istore_n (lv' := [some (.ref w), some (.int p), some (.int c), some (.int x1)]) d_World_read_8 rfl (by decide) rfl ?_
  refine ab_iload_n d_World_read_9 rfl rfl ?_
  refine ab_if_lt (tgt := 35) d_World_read_10 (by decide) (fun q2 => ?_) (fun q2 => ?_)
  · refine ab_iconst (v := 0) d_World_read_35 (by decide) ?_
    exact ab_iret d_World_read_36 rfl (Nat.le_refl _) (Nat.le_refl _) ⟨by simp_all [sp_read], rfl⟩
  · refine ab_iload_n d_World_read_13 rfl rfl ?_
    refine ab_if_lt (tgt := 35) d_World_read_14 (by decide) (fun q3 => ?_) (fun q3 => ?_)
    · refine ab_iconst (v := 0) d_World_read_35 (by decide) ?_
      exact ab_iret d_World_read_36 rfl (Nat.le_refl _) (Nat.le_refl _) ⟨by simp_all [sp_read], rfl⟩
    · refine ab_iload_n d_World_read_17 rfl rfl ?_
      refine ab_aload_n d_World_read_18 rfl rfl rfl ?_
      refine ab_get (f := 11) d_World_read_19 g0 rfl (by decide) (k1 236 rfl rfl) rfl ?_
      refine ab_alen (v := 12288) d_World_read_22 tI g11 (show Int32.ofNat 12288 = 12288 by decide) ?_
      refine ab_icmp_ge (tgt := 35) d_World_read_23 (by decide) (fun q4 => ?_) (fun q4 => ?_)
      · refine ab_iconst (v := 0) d_World_read_35 (by decide) ?_
        exact ab_iret d_World_read_36 rfl (Nat.le_refl _) (Nat.le_refl _) ⟨by simp_all [sp_read], rfl⟩
      · refine ab_aload_n d_World_read_26 rfl rfl rfl ?_
        refine ab_get (f := 11) d_World_read_27 g0 rfl (by decide) (k1 236 rfl rfl) rfl ?_
        refine ab_iload_n d_World_read_30 rfl rfl ?_
        refine ab_iald d_World_read_31 tI g11 (in_of (by decide) q3 q4) ?_
        refine ab_goto (tgt := 36) d_World_read_32 (by decide) ?_
        exact ab_iret d_World_read_36 rfl (Nat.le_refl _) (Nat.le_refl _) ⟨by simp_all [sp_read], rfl⟩
def sp_write (s : Nat → Int32) (a : Nat → Nat → Int32) (p c v : Int32) : Nat → Nat → Int32 := if ¬ p < 0 ∧ ¬ p * s 10 + c < 0 ∧ ¬ (12288 : Int32) ≤ p * s 10 + c then upa a 11 (upd (a 11) (p * s 10 + c).toNatClampNeg v) else a
set_option maxRecDepth 20000 in
set_option maxHeartbeats 2000000 in
theorem c_World_write {h : List ab_E} {w : Nat} {s : Nat → Int32} {a : Nat → Nat → Int32} {p c v : Int32} (hw : at_World h w s a) : ab_M y_World_write { frames := 0, cells := 0, slots := 0, locals := 0 } [.ref w, .int p, .int c, .int v] h (ab_A none (fun h1 => at_World h1 w (s) (sp_write s a p c v) ∧ ab_fr (in_World w) h h1)) := by
  have hw0 := hw; obtain ⟨g0, g7, g8, g11, g12, g14⟩ := hw
  refine ab_of2 (lv := [some (.ref w), some (.int p), some (.int c), some (.int v), none]) 1 rfl rfl (Nat.le_of_ble_eq_true rfl) ?_
  refine ab_iload_n d_World_write_0 rfl rfl ?_
  refine ab_aload_n d_World_write_1 rfl rfl rfl ?_
  refine ab_get (f := 10) d_World_write_2 g0 rfl (by decide) (k1 234 rfl rfl) rfl ?_
  refine ab_imul d_World_write_5 ?_
  refine ab_iload_n d_World_write_6 rfl rfl ?_
  refine ab_iadd d_World_write_7 ?_
  refine ab_topi (fun x1 ex1 => ?_)
  refine ab_istore (lv' := [some (.ref w), some (.int p), some (.int c), some (.int v), some (.int x1)]) d_World_write_8 (by decide) rfl ?_
  refine ab_iload_n d_World_write_10 rfl rfl ?_
  refine ab_if_lt (tgt := 37) d_World_write_11 (by decide) (fun q2 => ?_) (fun q2 => ?_)
  · exact ab_vret d_World_write_37 rfl (Nat.le_refl _) (Nat.le_refl _) (by rw [show sp_write s a p c v = a by rw [ex1] at *; simp_all [sp_write]]; exact (by exact ⟨rfl, ⟨g0, g7, g8, g11, g12, g14⟩, (ab_fr_rf _ _)⟩))
  · refine ab_iload d_World_write_14 rfl ?_
    refine ab_if_lt (tgt := 37) d_World_write_16 (by decide) (fun q3 => ?_) (fun q3 => ?_)
    · exact ab_vret d_World_write_37 rfl (Nat.le_refl _) (Nat.le_refl _) (by rw [show sp_write s a p c v = a by rw [ex1] at *; simp_all [sp_write]]; exact (by exact ⟨rfl, ⟨g0, g7, g8, g11, g12, g14⟩, (ab_fr_rf _ _)⟩))
    · refine ab_iload d_World_write_19 rfl ?_
      refine ab_aload_n d_World_write_21 rfl rfl rfl ?_
      refine ab_get (f := 11) d_World_write_22 g0 rfl (by decide) (k1 236 rfl rfl) rfl ?_
      refine ab_alen (v := 12288) d_World_write_25 tI g11 (show Int32.ofNat 12288 = 12288 by decide) ?_
      refine ab_icmp_ge (tgt := 37) d_World_write_26 (by decide) (fun q4 => ?_) (fun q4 => ?_)
      · exact ab_vret d_World_write_37 rfl (Nat.le_refl _) (Nat.le_refl _) (by rw [show sp_write s a p c v = a by rw [ex1] at *; simp_all [sp_write]]; exact (by exact ⟨rfl, ⟨g0, g7, g8, g11, g12, g14⟩, (ab_fr_rf _ _)⟩))
      · refine ab_aload_n d_World_write_29 rfl rfl rfl ?_
        refine ab_get (f := 11) d_World_write_30 g0 rfl (by decide) (k1 236 rfl rfl) rfl ?_
        refine ab_iload d_World_write_33 rfl ?_
        refine ab_iload_n d_World_write_35 rfl rfl ?_
        refine ab_iast d_World_write_36 tI g11 (in_of (by decide) q3 q4) ?_
        refine ab_gen (fun h5 e6 => ?_)
        have c7 : h5[w]? = some (.inr (7, [.int (s 0), .int (s 1), .int (s 2), .int (s 3), .int (s 4), .int (s 5), .int (s 6), .ref (w + 1), .ref (w + 2), .int (s 9), .int (s 10), .ref (w + 3), .ref (w + 4), .int (s 13), .ref (w + 5), .int (s 15)])) := ab_other e6 (by omega) g0
        have c8 : h5[w+1]? = some (.inl (.int, 256, .inl (a 7))) := ab_other e6 (by omega) g7
        have c9 : h5[w+2]? = some (.inl (.int, 256, .inl (a 8))) := ab_other e6 (by omega) g8
        have c10 : h5[w+3]? = some (.inl (.int, 12288, .inl (upd (a 11) (x1).toNatClampNeg v))) := ab_self e6 g11
        have c11 : h5[w+4]? = some (.inl (.int, 1792, .inl (a 12))) := ab_other e6 (by omega) g12
        have c12 : h5[w+5]? = some (.inl (.int, 32, .inl (a 14))) := ab_other e6 (by omega) g14
        exact ab_vret d_World_write_37 rfl (Nat.le_refl _) (Nat.le_refl _) (by rw [show sp_write s a p c v = upa a 11 (upd (a 11) x1.toNatClampNeg v) by rw [ex1]; rw [ex1] at *; simp_all [sp_write]]; exact (by exact ⟨rfl, ⟨c7, c8, c9, c10, c11, c12⟩, (ab_fr_set (ab_fr_rf _ _) e6 (by show _ ∧ _; omega))⟩))
set_option maxRecDepth 20000 in
set_option maxHeartbeats 2000000 in
theorem c_World_remove {h : List ab_E} {w : Nat} {s : Nat → Int32} {a : Nat → Nat → Int32} {p : Int32} (hw : at_World h w s a) (hp : vp_in p 256) : ab_M y_World_remove { frames := 0, cells := 0, slots := 0, locals := 0 } [.ref w, .int p] h (ab_A none (fun h1 => at_World h1 w (s) (upa (upa a 8 (upd (a 8) p.toNatClampNeg (-1))) 7 (upd (a 7) p.toNatClampNeg (a 7 p.toNatClampNeg + 1))) ∧ ab_fr (in_World w) h h1)) := by
  have hw0 := hw; obtain ⟨g0, g7, g8, g11, g12, g14⟩ := hw
  refine ab_of2 (lv := [some (.ref w), some (.int p)]) 0 rfl rfl (Nat.le_of_ble_eq_true rfl) ?_
  refine ab_aload_n d_World_remove_0 rfl rfl rfl ?_
  refine ab_get (f := 8) d_World_remove_1 g0 rfl (by decide) (k1 229 rfl rfl) rfl ?_
  refine ab_iload_n d_World_remove_4 rfl rfl ?_
  refine ab_iconst (v := (-1)) d_World_remove_5 (by decide) ?_
  refine ab_iast d_World_remove_6 tI g8 hp ?_
  refine ab_gen (fun h1 e2 => ?_)
  have c3 : h1[w]? = some (.inr (7, [.int (s 0), .int (s 1), .int (s 2), .int (s 3), .int (s 4), .int (s 5), .int (s 6), .ref (w + 1), .ref (w + 2), .int (s 9), .int (s 10), .ref (w + 3), .ref (w + 4), .int (s 13), .ref (w + 5), .int (s 15)])) := ab_other e2 (by omega) g0
  have c4 : h1[w+1]? = some (.inl (.int, 256, .inl (a 7))) := ab_other e2 (by omega) g7
  have c5 : h1[w+2]? = some (.inl (.int, 256, .inl (upd (a 8) (p).toNatClampNeg (-1)))) := ab_self e2 g8
  have c6 : h1[w+3]? = some (.inl (.int, 12288, .inl (a 11))) := ab_other e2 (by omega) g11
  have c7 : h1[w+4]? = some (.inl (.int, 1792, .inl (a 12))) := ab_other e2 (by omega) g12
  have c8 : h1[w+5]? = some (.inl (.int, 32, .inl (a 14))) := ab_other e2 (by omega) g14
  refine ab_aload_n d_World_remove_7 rfl rfl rfl ?_
  refine ab_get (f := 7) d_World_remove_8 c3 rfl (by decide) (k1 227 rfl rfl) rfl ?_
  refine ab_iload_n d_World_remove_11 rfl rfl ?_
  refine ab_dup2_11 d_World_remove_12 rfl rfl ?_
  refine ab_iald d_World_remove_13 tI c4 hp ?_
  refine ab_iconst (v := 1) d_World_remove_14 (by decide) ?_
  refine ab_iadd d_World_remove_15 ?_
  refine ab_iast d_World_remove_16 tI c4 hp ?_
  refine ab_gen (fun h9 e10 => ?_)
  have c11 : h9[w]? = some (.inr (7, [.int (s 0), .int (s 1), .int (s 2), .int (s 3), .int (s 4), .int (s 5), .int (s 6), .ref (w + 1), .ref (w + 2), .int (s 9), .int (s 10), .ref (w + 3), .ref (w + 4), .int (s 13), .ref (w + 5), .int (s 15)])) := ab_other e10 (by omega) c3
  have c12 : h9[w+1]? = some (.inl (.int, 256, .inl (upd (a 7) (p).toNatClampNeg (((a 7) (p).toNatClampNeg) + 1)))) := ab_self e10 c4
  have c13 : h9[w+2]? = some (.inl (.int, 256, .inl (upd (a 8) (p).toNatClampNeg (-1)))) := ab_other e10 (by omega) c5
  have c14 : h9[w+3]? = some (.inl (.int, 12288, .inl (a 11))) := ab_other e10 (by omega) c6
  have c15 : h9[w+4]? = some (.inl (.int, 1792, .inl (a 12))) := ab_other e10 (by omega) c7
  have c16 : h9[w+5]? = some (.inl (.int, 32, .inl (a 14))) := ab_other e10 (by omega) c8
  exact ab_vret d_World_remove_17 rfl (Nat.le_refl _) (Nat.le_refl _) (by exact ⟨rfl, ⟨c11, c12, c13, c14, c15, c16⟩, (ab_fr_set (ab_fr_set (ab_fr_rf _ _) e2 (by show _ ∧ _; omega)) e10 (by show _ ∧ _; omega))⟩)
set_option maxRecDepth 20000 in
set_option maxHeartbeats 2000000 in
theorem c_World_takeAt {h : List ab_E} {w : Nat} {s : Nat → Int32} {a : Nat → Nat → Int32} {p c : Int32} (hw : at_World h w s a) (hp : vp_in p 256) : ab_M y_World_takeAt { frames := 0, cells := 0, slots := 0, locals := 0 } [.ref w, .int p, .int c] h (ab_A none (fun h1 => at_World h1 w (s) (upa a 8 (upd (a 8) p.toNatClampNeg (a 8 p.toNatClampNeg &&& ((1 <<< (c &&& 31)) ^^^ (-1))))) ∧ ab_fr (in_World w) h h1)) := by
  have hw0 := hw; obtain ⟨g0, g7, g8, g11, g12, g14⟩ := hw
  refine ab_of2 (lv := [some (.ref w), some (.int p), some (.int c)]) 0 rfl rfl (Nat.le_of_ble_eq_true rfl) ?_
  refine ab_aload_n d_World_takeAt_0 rfl rfl rfl ?_
  refine ab_get (f := 8) d_World_takeAt_1 g0 rfl (by decide) (k1 229 rfl rfl) rfl ?_
  refine ab_iload_n d_World_takeAt_4 rfl rfl ?_
  refine ab_dup2_11 d_World_takeAt_5 rfl rfl ?_
  refine ab_iald d_World_takeAt_6 tI g8 hp ?_
  refine ab_iconst (v := 1) d_World_takeAt_7 (by decide) ?_
  refine ab_iload_n d_World_takeAt_8 rfl rfl ?_
  refine ab_ishl d_World_takeAt_9 ?_
  refine ab_iconst (v := (-1)) d_World_takeAt_10 (by decide) ?_
  refine ab_ixor d_World_takeAt_11 ?_
  refine ab_iand d_World_takeAt_12 ?_
  refine ab_iast d_World_takeAt_13 tI g8 hp ?_
  refine ab_gen (fun h1 e2 => ?_)
  have c3 : h1[w]? = some (.inr (7, [.int (s 0), .int (s 1), .int (s 2), .int (s 3), .int (s 4), .int (s 5), .int (s 6), .ref (w + 1), .ref (w + 2), .int (s 9), .int (s 10), .ref (w + 3), .ref (w + 4), .int (s 13), .ref (w + 5), .int (s 15)])) := ab_other e2 (by omega) g0
  have c4 : h1[w+1]? = some (.inl (.int, 256, .inl (a 7))) := ab_other e2 (by omega) g7
  have c5 : h1[w+2]? = some (.inl (.int, 256, .inl (upd (a 8) (p).toNatClampNeg (((a 8) (p).toNatClampNeg) &&& ((1 <<< (c &&& 31)) ^^^ (-1)))))) := ab_self e2 g8
  have c6 : h1[w+3]? = some (.inl (.int, 12288, .inl (a 11))) := ab_other e2 (by omega) g11
  have c7 : h1[w+4]? = some (.inl (.int, 1792, .inl (a 12))) := ab_other e2 (by omega) g12
  have c8 : h1[w+5]? = some (.inl (.int, 32, .inl (a 14))) := ab_other e2 (by omega) g14
  exact ab_vret d_World_takeAt_14 rfl (Nat.le_refl _) (Nat.le_refl _) (by exact ⟨rfl, ⟨c3, c4, c5, c6, c7, c8⟩, (ab_fr_set (ab_fr_rf _ _) e2 (by show _ ∧ _; omega))⟩)
def sp_note (s : Nat → Int32) (y n v : Int32) : Nat → Int32 := if s 6 = 0 then upd (upd (upd (upd s 2 (s 2 + 1)) 4 y) 5 n) 6 v else upd s 2 (s 2 + 1)
set_option maxRecDepth 20000 in
set_option maxHeartbeats 2000000 in
theorem c_World_noteFailure {h : List ab_E} {w : Nat} {s : Nat → Int32} {a : Nat → Nat → Int32} {y n v : Int32} (hw : at_World h w s a) : ab_M y_World_noteFailure { frames := 0, cells := 0, slots := 0, locals := 0 } [.ref w, .int y, .int n, .int v] h (ab_A none (fun h1 => at_World h1 w (sp_note s y n v) (a) ∧ ab_fr (in_World w) h h1)) := by
  have hw0 := hw; obtain ⟨g0, g7, g8, g11, g12, g14⟩ := hw
  refine ab_of2 (lv := [some (.ref w), some (.int y), some (.int n), some (.int v)]) 0 rfl rfl (Nat.le_of_ble_eq_true rfl) ?_
  refine ab_aload_n d_World_noteFailure_0 rfl rfl rfl ?_
  refine ab_dup d_World_noteFailure_1 rfl ?_
  refine ab_get (f := 2) d_World_noteFailure_2 g0 rfl (by decide) (k1 213 rfl rfl) rfl ?_
  refine ab_iconst (v := 1) d_World_noteFailure_5 (by decide) ?_
  refine ab_iadd d_World_noteFailure_6 ?_
  refine ab_put (f := 2) d_World_noteFailure_7 g0 rfl (by decide) (k1 213 rfl rfl) rfl rfl (fun _ => rfl) (fun _ => rfl) (Nat.le_of_ble_eq_true rfl) ?_
  show ab_V _ _ _ _ _ _ _ 10 [some (.ref w), some (.int y), some (.int n), some (.int v)] [] (h.set w (.inr (7, [.int (s 0), .int (s 1), .int ((s 2) + 1), .int (s 3), .int (s 4), .int (s 5), .int (s 6), .ref (w + 1), .ref (w + 2), .int (s 9), .int (s 10), .ref (w + 3), .ref (w + 4), .int (s 13), .ref (w + 5), .int (s 15)])))
  refine ab_gen (fun h1 e2 => ?_)
  have c3 : h1[w]? = some (.inr (7, [.int (s 0), .int (s 1), .int ((s 2) + 1), .int (s 3), .int (s 4), .int (s 5), .int (s 6), .ref (w + 1), .ref (w + 2), .int (s 9), .int (s 10), .ref (w + 3), .ref (w + 4), .int (s 13), .ref (w + 5), .int (s 15)])) := ab_self e2 g0
  have c4 : h1[w+1]? = some (.inl (.int, 256, .inl (a 7))) := ab_other e2 (by omega) g7
  have c5 : h1[w+2]? = some (.inl (.int, 256, .inl (a 8))) := ab_other e2 (by omega) g8
  have c6 : h1[w+3]? = some (.inl (.int, 12288, .inl (a 11))) := ab_other e2 (by omega) g11
  have c7 : h1[w+4]? = some (.inl (.int, 1792, .inl (a 12))) := ab_other e2 (by omega) g12
  have c8 : h1[w+5]? = some (.inl (.int, 32, .inl (a 14))) := ab_other e2 (by omega) g14
  refine ab_aload_n d_World_noteFailure_10 rfl rfl rfl ?_
  refine ab_get (f := 6) d_World_noteFailure_11 c3 rfl (by decide) (k1 224 rfl rfl) rfl ?_
  refine ab_if_ne (tgt := 32) d_World_noteFailure_14 (by decide) (fun q9 => ?_) (fun q9 => ?_)
  · exact ab_vret d_World_noteFailure_32 rfl (Nat.le_refl _) (Nat.le_refl _) (by rw [sp_note, if_neg (by assumption)]; exact (by exact ⟨rfl, ⟨c3, c4, c5, c6, c7, c8⟩, (ab_fr_set (ab_fr_rf _ _) e2 (by show _ ∧ _; omega))⟩))
  · refine ab_aload_n d_World_noteFailure_17 rfl rfl rfl ?_
    refine ab_iload_n d_World_noteFailure_18 rfl rfl ?_
    refine ab_put (f := 4) d_World_noteFailure_19 c3 rfl (by decide) (k1 220 rfl rfl) rfl rfl (fun _ => rfl) (fun _ => rfl) (Nat.le_of_ble_eq_true rfl) ?_
    show ab_V _ _ _ _ _ _ _ 22 [some (.ref w), some (.int y), some (.int n), some (.int v)] [] (h1.set w (.inr (7, [.int (s 0), .int (s 1), .int ((s 2) + 1), .int (s 3), .int y, .int (s 5), .int (s 6), .ref (w + 1), .ref (w + 2), .int (s 9), .int (s 10), .ref (w + 3), .ref (w + 4), .int (s 13), .ref (w + 5), .int (s 15)])))
    refine ab_gen (fun h10 e11 => ?_)
    have c12 : h10[w]? = some (.inr (7, [.int (s 0), .int (s 1), .int ((s 2) + 1), .int (s 3), .int y, .int (s 5), .int (s 6), .ref (w + 1), .ref (w + 2), .int (s 9), .int (s 10), .ref (w + 3), .ref (w + 4), .int (s 13), .ref (w + 5), .int (s 15)])) := ab_self e11 c3
    have c13 : h10[w+1]? = some (.inl (.int, 256, .inl (a 7))) := ab_other e11 (by omega) c4
    have c14 : h10[w+2]? = some (.inl (.int, 256, .inl (a 8))) := ab_other e11 (by omega) c5
    have c15 : h10[w+3]? = some (.inl (.int, 12288, .inl (a 11))) := ab_other e11 (by omega) c6
    have c16 : h10[w+4]? = some (.inl (.int, 1792, .inl (a 12))) := ab_other e11 (by omega) c7
    have c17 : h10[w+5]? = some (.inl (.int, 32, .inl (a 14))) := ab_other e11 (by omega) c8
    refine ab_aload_n d_World_noteFailure_22 rfl rfl rfl ?_
    refine ab_iload_n d_World_noteFailure_23 rfl rfl ?_
    refine ab_put (f := 5) d_World_noteFailure_24 c12 rfl (by decide) (k1 222 rfl rfl) rfl rfl (fun _ => rfl) (fun _ => rfl) (Nat.le_of_ble_eq_true rfl) ?_
    show ab_V _ _ _ _ _ _ _ 27 [some (.ref w), some (.int y), some (.int n), some (.int v)] [] (h10.set w (.inr (7, [.int (s 0), .int (s 1), .int ((s 2) + 1), .int (s 3), .int y, .int n, .int (s 6), .ref (w + 1), .ref (w + 2), .int (s 9), .int (s 10), .ref (w + 3), .ref (w + 4), .int (s 13), .ref (w + 5), .int (s 15)])))
    refine ab_gen (fun h18 e19 => ?_)
    have c20 : h18[w]? = some (.inr (7, [.int (s 0), .int (s 1), .int ((s 2) + 1), .int (s 3), .int y, .int n, .int (s 6), .ref (w + 1), .ref (w + 2), .int (s 9), .int (s 10), .ref (w + 3), .ref (w + 4), .int (s 13), .ref (w + 5), .int (s 15)])) := ab_self e19 c12
    have c21 : h18[w+1]? = some (.inl (.int, 256, .inl (a 7))) := ab_other e19 (by omega) c13
    have c22 : h18[w+2]? = some (.inl (.int, 256, .inl (a 8))) := ab_other e19 (by omega) c14
    have c23 : h18[w+3]? = some (.inl (.int, 12288, .inl (a 11))) := ab_other e19 (by omega) c15
    have c24 : h18[w+4]? = some (.inl (.int, 1792, .inl (a 12))) := ab_other e19 (by omega) c16
    have c25 : h18[w+5]? = some (.inl (.int, 32, .inl (a 14))) := ab_other e19 (by omega) c17
    refine ab_aload_n d_World_noteFailure_27 rfl rfl rfl ?_
    refine ab_iload_n d_World_noteFailure_28 rfl rfl ?_
    refine ab_put (f := 6) d_World_noteFailure_29 c20 rfl (by decide) (k1 224 rfl rfl) rfl rfl (fun _ => rfl) (fun _ => rfl) (Nat.le_of_ble_eq_true rfl) ?_
    show ab_V _ _ _ _ _ _ _ 32 [some (.ref w), some (.int y), some (.int n), some (.int v)] [] (h18.set w (.inr (7, [.int (s 0), .int (s 1), .int ((s 2) + 1), .int (s 3), .int y, .int n, .int v, .ref (w + 1), .ref (w + 2), .int (s 9), .int (s 10), .ref (w + 3), .ref (w + 4), .int (s 13), .ref (w + 5), .int (s 15)])))
    refine ab_gen (fun h26 e27 => ?_)
    have c28 : h26[w]? = some (.inr (7, [.int (s 0), .int (s 1), .int ((s 2) + 1), .int (s 3), .int y, .int n, .int v, .ref (w + 1), .ref (w + 2), .int (s 9), .int (s 10), .ref (w + 3), .ref (w + 4), .int (s 13), .ref (w + 5), .int (s 15)])) := ab_self e27 c20
    have c29 : h26[w+1]? = some (.inl (.int, 256, .inl (a 7))) := ab_other e27 (by omega) c21
    have c30 : h26[w+2]? = some (.inl (.int, 256, .inl (a 8))) := ab_other e27 (by omega) c22
    have c31 : h26[w+3]? = some (.inl (.int, 12288, .inl (a 11))) := ab_other e27 (by omega) c23
    have c32 : h26[w+4]? = some (.inl (.int, 1792, .inl (a 12))) := ab_other e27 (by omega) c24
    have c33 : h26[w+5]? = some (.inl (.int, 32, .inl (a 14))) := ab_other e27 (by omega) c25
    exact ab_vret d_World_noteFailure_32 rfl (Nat.le_refl _) (Nat.le_refl _) (by rw [sp_note, if_pos (by assumption)]; exact (by exact ⟨rfl, ⟨c28, c29, c30, c31, c32, c33⟩, (ab_fr_set (ab_fr_set (ab_fr_set (ab_fr_set (ab_fr_rf _ _) e2 (by show _ ∧ _; omega)) e11 (by show _ ∧ _; omega)) e19 (by show _ ∧ _; omega)) e27 (by show _ ∧ _; omega))⟩))
set_option maxRecDepth 20000 in
set_option maxHeartbeats 2000000 in
theorem c_World_occupy {h : List ab_E} {w : Nat} {s : Nat → Int32} {a : Nat → Nat → Int32} {p v : Int32} (hw : at_World h w s a) (hp : vp_in p 256) : ab_M y_World_occupy { frames := 1, cells := 0, slots := 0, locals := 32 } [.ref w, .int p, .int v] h (ab_A none (fun h1 => at_World h1 w (upd s 9 (if s 9 < p + 1 then p + 1 else s 9)) (upa a 8 (upd (a 8) p.toNatClampNeg v)) ∧ ab_fr (in_World w) h h1)) := by
  have hw0 := hw; obtain ⟨g0, g7, g8, g11, g12, g14⟩ := hw
  refine ab_of2 (lv := [some (.ref w), some (.int p), some (.int v)]) 0 rfl rfl (Nat.le_of_ble_eq_true rfl) ?_
  refine ab_aload_n d_World_occupy_0 rfl rfl rfl ?_
  refine ab_get (f := 8) d_World_occupy_1 g0 rfl (by decide) (k1 229 rfl rfl) rfl ?_
  refine ab_iload_n d_World_occupy_4 rfl rfl ?_
  refine ab_iload_n d_World_occupy_5 rfl rfl ?_
  refine ab_iast d_World_occupy_6 tI g8 hp ?_
  refine ab_gen (fun h1 e2 => ?_)
  have c3 : h1[w]? = some (.inr (7, [.int (s 0), .int (s 1), .int (s 2), .int (s 3), .int (s 4), .int (s 5), .int (s 6), .ref (w + 1), .ref (w + 2), .int (s 9), .int (s 10), .ref (w + 3), .ref (w + 4), .int (s 13), .ref (w + 5), .int (s 15)])) := ab_other e2 (by omega) g0
  have c4 : h1[w+1]? = some (.inl (.int, 256, .inl (a 7))) := ab_other e2 (by omega) g7
  have c5 : h1[w+2]? = some (.inl (.int, 256, .inl (upd (a 8) (p).toNatClampNeg v))) := ab_self e2 g8
  have c6 : h1[w+3]? = some (.inl (.int, 12288, .inl (a 11))) := ab_other e2 (by omega) g11
  have c7 : h1[w+4]? = some (.inl (.int, 1792, .inl (a 12))) := ab_other e2 (by omega) g12
  have c8 : h1[w+5]? = some (.inl (.int, 32, .inl (a 14))) := ab_other e2 (by omega) g14
  refine ab_aload_n d_World_occupy_7 rfl rfl rfl ?_
  refine ab_aload_n d_World_occupy_8 rfl rfl rfl ?_
  refine ab_get (f := 9) d_World_occupy_9 c3 rfl (by decide) (k1 231 rfl rfl) rfl ?_
  refine ab_iload_n d_World_occupy_12 rfl rfl ?_
  refine ab_iconst (v := 1) d_World_occupy_13 (by decide) ?_
  refine ab_iadd d_World_occupy_14 ?_
  refine ab_callS_a (As := [.int (s 9), .int (p + 1)]) (rest := [.ref w]) d_World_occupy_15 (c_Math_max) (ab_mkC s_Math_max (by decide) (by decide) (by decide) (by decide)) (k6 141 rfl rfl) t_Math_max rfl (Nat.le_of_ble_eq_true rfl) (fun h10 q9 => ?_)
  subst q9
  refine ab_topi (fun x11 ex11 => ?_)
  refine ab_put (f := 9) d_World_occupy_18 c3 rfl (by decide) (k1 231 rfl rfl) rfl rfl (fun _ => rfl) (fun _ => rfl) (Nat.le_of_ble_eq_true rfl) ?_
  show ab_V _ _ _ _ _ _ _ 21 [some (.ref w), some (.int p), some (.int v)] [] (h1.set w (.inr (7, [.int (s 0), .int (s 1), .int (s 2), .int (s 3), .int (s 4), .int (s 5), .int (s 6), .ref (w + 1), .ref (w + 2), .int x11, .int (s 10), .ref (w + 3), .ref (w + 4), .int (s 13), .ref (w + 5), .int (s 15)])))
  refine ab_gen (fun h12 e13 => ?_)
  have c14 : h12[w]? = some (.inr (7, [.int (s 0), .int (s 1), .int (s 2), .int (s 3), .int (s 4), .int (s 5), .int (s 6), .ref (w + 1), .ref (w + 2), .int x11, .int (s 10), .ref (w + 3), .ref (w + 4), .int (s 13), .ref (w + 5), .int (s 15)])) := ab_self e13 c3
  have c15 : h12[w+1]? = some (.inl (.int, 256, .inl (a 7))) := ab_other e13 (by omega) c4
  have c16 : h12[w+2]? = some (.inl (.int, 256, .inl (upd (a 8) (p).toNatClampNeg v))) := ab_other e13 (by omega) c5
  have c17 : h12[w+3]? = some (.inl (.int, 12288, .inl (a 11))) := ab_other e13 (by omega) c6
  have c18 : h12[w+4]? = some (.inl (.int, 1792, .inl (a 12))) := ab_other e13 (by omega) c7
  have c19 : h12[w+5]? = some (.inl (.int, 32, .inl (a 14))) := ab_other e13 (by omega) c8
  exact ab_vret d_World_occupy_21 rfl (Nat.le_refl _) (Nat.le_refl _) (by subst ex11; exact ⟨rfl, ⟨c14, c15, c16, c17, c18, c19⟩, (ab_fr_set (ab_fr_set (ab_fr_rf _ _) e2 (by show _ ∧ _; omega)) e13 (by show _ ∧ _; omega))⟩)
