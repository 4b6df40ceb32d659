def hz : Nat → Int32 → Int32
  | 0, x => x
  | n + 1, x => hz n (31 * x + 0)
theorem hz_add : ∀ (a b : Nat) (x : Int32), hz a (hz b x) = hz (b + a) x := by
  intro a b
  induction b with
  | zero => intro x; rw [Nat.zero_add]; rfl
  | succ b ih => intro x; rw [show b + 1 + a = (b + a) + 1 by omega]; exact ih (31 * x + 0)
set_option maxRecDepth 20000 in
set_option maxHeartbeats 2000000 in
theorem r_puts_s87 {h : List ab_E}  {p0 p1 p2 p4 p5 p6 p7 p8 p10 p11 p12 p13 p14 p15 p16 p17 p18 p19 p20 p22 p25 p26 p27 p28 : Value} {m : Nat} {x : Int32}  (po : h[m]? = some (.inr (12, [p0, p1, p2, .ref (m + 2), p4, p5, p6, p7, p8, .ref (m + 74), p10, p11, p12, p13, p14, p15, p16, p17, p18, p19, p20, .ref (m + 105), p22, .int x, .int 1, p25, p26, p27, p28])))  : ab_M y_M_puts { frames := 0, cells := 0, slots := 0, locals := 0 } [.ref m, .int 87, .int 1] h (ab_A none (fun h1 => h1[m]? = some (.inr (12, [p0, p1, p2, .ref (m + 2), p4, p5, p6, p7, p8, .ref (m + 74), p10, p11, p12, p13, p14, p15, p16, p17, p18, p19, p20, .ref (m + 105), p22, .int (31 * x + 87), .int 1, p25, p26, p27, p28])) ∧ ab_fr (fun j => j = m) h h1)) := by
  refine ab_of2 (lv := [some (.ref m), some (.int 87), some (.int 1), none, none]) 2 rfl rfl (Nat.le_of_ble_eq_true rfl) ?_
  refine ab_iload_n d_M_puts_0 rfl rfl ?_
  refine ab_iconst (v := 1) d_M_puts_1 (by decide) ?_
  refine ab_isub d_M_puts_2 ?_
  refine ab_topi (fun x1 ex1 => ?_)
  obtain rfl : x1 = 0 := ex1.trans (by decide)
  clear ex1
  refine ab_istore_n (lv' := [some (.ref m), some (.int 87), some (.int 1), some (.int 0), none]) d_M_puts_3 rfl (by decide) rfl ?_
  refine ab_iload_n d_M_puts_4 rfl rfl ?_
  refine ab_if_lt (tgt := 72) d_M_puts_5 (by decide) (fun q2 => by exact absurd q2 (by decide)) (fun q2 => ?_)
  refine ab_iload_n d_M_puts_8 rfl rfl ?_
  refine ab_bipush (v := 8) d_M_puts_9 (by decide) ?_
  refine ab_iload_n d_M_puts_11 rfl rfl ?_
  refine ab_imul d_M_puts_12 ?_
  refine ab_topi (fun x3 ex3 => ?_)
  obtain rfl : x3 = 0 := ex3.trans (by decide)
  clear ex3
  refine ab_ishr d_M_puts_13 ?_
  refine ab_topi (fun x4 ex4 => ?_)
  obtain rfl : x4 = 87 := ex4.trans (by decide)
  clear ex4
  refine ab_sipush (v := 255) d_M_puts_14 (by decide) ?_
  refine ab_iand d_M_puts_17 ?_
  refine ab_topi (fun x5 ex5 => ?_)
  obtain rfl : x5 = 87 := ex5.trans (by decide)
  clear ex5
  refine ab_istore (lv' := [some (.ref m), some (.int 87), some (.int 1), some (.int 0), some (.int 87)]) d_M_puts_18 (by decide) rfl ?_
  refine ab_aload_n d_M_puts_20 rfl rfl rfl ?_
  refine ab_get (f := 24) d_M_puts_21 po rfl (by decide) (k10 17 rfl rfl) rfl ?_
  refine ab_if_eq (tgt := 44) d_M_puts_24 (by decide) (fun q6 => by exact absurd q6 (by decide)) (fun q6 => ?_)
  refine ab_aload_n d_M_puts_27 rfl rfl rfl ?_
  refine ab_bipush (v := 31) d_M_puts_28 (by decide) ?_
  refine ab_aload_n d_M_puts_30 rfl rfl rfl ?_
  refine ab_get (f := 23) d_M_puts_31 po rfl (by decide) (k10 16 rfl rfl) rfl ?_
  refine ab_imul d_M_puts_34 ?_
  refine ab_iload d_M_puts_35 rfl ?_
  refine ab_iadd d_M_puts_37 ?_
  refine ab_put (f := 23) d_M_puts_38 po rfl (by decide) (k10 16 rfl rfl) rfl rfl (fun _ => rfl) (fun _ => rfl) (Nat.le_of_ble_eq_true rfl) ?_
  show ab_V _ _ _ _ _ _ _ 41 [some (.ref m), some (.int 87), some (.int 1), some (.int 0), some (.int 87)] [] (h.set m (.inr (12, [p0, p1, p2, .ref (m + 2), p4, p5, p6, p7, p8, .ref (m + 74), p10, p11, p12, p13, p14, p15, p16, p17, p18, p19, p20, .ref (m + 105), p22, .int ((31 * x) + 87), .int 1, p25, p26, p27, p28])))
  refine ab_gen (fun h7 e8 => ?_)
  have c9 : h7[m]? = some (.inr (12, [p0, p1, p2, .ref (m + 2), p4, p5, p6, p7, p8, .ref (m + 74), p10, p11, p12, p13, p14, p15, p16, p17, p18, p19, p20, .ref (m + 105), p22, .int ((31 * x) + 87), .int 1, p25, p26, p27, p28])) := ab_self e8 po
  have fr10 : ab_fr (fun j => j = m) h h7 := ab_fr_set (ab_fr_rf _ _) e8 (by first | (show _ ∧ _; omega) | (show _ ∨ _; omega) | (show _ = _; omega) | (show _ ≤ _; omega))
  clear e8
  refine ab_goto (tgt := 66) d_M_puts_41 (by decide) ?_
  refine ab_iinc (v := (-1)) (lv' := [some (.ref m), some (.int 87), some (.int 1), some (.int (-1)), some (.int 87)]) d_M_puts_66 rfl (by decide) (by decide) rfl ?_
  refine ab_goto (tgt := 4) d_M_puts_69 (by decide) ?_
  refine ab_iload_n d_M_puts_4 rfl rfl ?_
  refine ab_if_lt (tgt := 72) d_M_puts_5 (by decide) (fun q11 => ?_) (fun q11 => by exact absurd (by decide) q11)
  exact ab_vret d_M_puts_72 rfl (Nat.le_refl _) (Nat.le_refl _) (by exact ⟨rfl, c9, fr10⟩)
set_option maxRecDepth 20000 in
set_option maxHeartbeats 2000000 in
theorem r_puts_s69 {h : List ab_E}  {p0 p1 p2 p4 p5 p6 p7 p8 p10 p11 p12 p13 p14 p15 p16 p17 p18 p19 p20 p22 p25 p26 p27 p28 : Value} {m : Nat} {x : Int32}  (po : h[m]? = some (.inr (12, [p0, p1, p2, .ref (m + 2), p4, p5, p6, p7, p8, .ref (m + 74), p10, p11, p12, p13, p14, p15, p16, p17, p18, p19, p20, .ref (m + 105), p22, .int x, .int 1, p25, p26, p27, p28])))  : ab_M y_M_puts { frames := 0, cells := 0, slots := 0, locals := 0 } [.ref m, .int 69, .int 1] h (ab_A none (fun h1 => h1[m]? = some (.inr (12, [p0, p1, p2, .ref (m + 2), p4, p5, p6, p7, p8, .ref (m + 74), p10, p11, p12, p13, p14, p15, p16, p17, p18, p19, p20, .ref (m + 105), p22, .int (31 * x + 69), .int 1, p25, p26, p27, p28])) ∧ ab_fr (fun j => j = m) h h1)) := by
  refine ab_of2 (lv := [some (.ref m), some (.int 69), some (.int 1), none, none]) 2 rfl rfl (Nat.le_of_ble_eq_true rfl) ?_
  refine ab_iload_n d_M_puts_0 rfl rfl ?_
  refine ab_iconst (v := 1) d_M_puts_1 (by decide) ?_
  refine ab_isub d_M_puts_2 ?_
  refine ab_topi (fun x1 ex1 => ?_)
  obtain rfl : x1 = 0 := ex1.trans (by decide)
  clear ex1
  refine ab_istore_n (lv' := [some (.ref m), some (.int 69), some (.int 1), some (.int 0), none]) d_M_puts_3 rfl (by decide) rfl ?_
  refine ab_iload_n d_M_puts_4 rfl rfl ?_
  refine ab_if_lt (tgt := 72) d_M_puts_5 (by decide) (fun q2 => by exact absurd q2 (by decide)) (fun q2 => ?_)
  refine ab_iload_n d_M_puts_8 rfl rfl ?_
  refine ab_bipush (v := 8) d_M_puts_9 (by decide) ?_
  refine ab_iload_n d_M_puts_11 rfl rfl ?_
  refine ab_imul d_M_puts_12 ?_
  refine ab_topi (fun x3 ex3 => ?_)
  obtain rfl : x3 = 0 := ex3.trans (by decide)
  clear ex3
  refine ab_ishr d_M_puts_13 ?_
  refine ab_topi (fun x4 ex4 => ?_)
  obtain rfl : x4 = 69 := ex4.trans (by decide)
  clear ex4
  refine ab_sipush (v := 255) d_M_puts_14 (by decide) ?_
  refine ab_iand d_M_puts_17 ?_
  refine ab_topi (fun x5 ex5 => ?_)
  obtain rfl : x5 = 69 := ex5.trans (by decide)
  clear ex5
  refine ab_istore (lv' := [some (.ref m), some (.int 69), some (.int 1), some (.int 0), some (.int 69)]) d_M_puts_18 (by decide) rfl ?_
  refine ab_aload_n d_M_puts_20 rfl rfl rfl ?_
  refine ab_get (f := 24) d_M_puts_21 po rfl (by decide) (k10 17 rfl rfl) rfl ?_
  refine ab_if_eq (tgt := 44) d_M_puts_24 (by decide) (fun q6 => by exact absurd q6 (by decide)) (fun q6 => ?_)
  refine ab_aload_n d_M_puts_27 rfl rfl rfl ?_
  refine ab_bipush (v := 31) d_M_puts_28 (by decide) ?_
  refine ab_aload_n d_M_puts_30 rfl rfl rfl ?_
  refine ab_get (f := 23) d_M_puts_31 po rfl (by decide) (k10 16 rfl rfl) rfl ?_
  refine ab_imul d_M_puts_34 ?_
  refine ab_iload d_M_puts_35 rfl ?_
  refine ab_iadd d_M_puts_37 ?_
  refine ab_put (f := 23) d_M_puts_38 po rfl (by decide) (k10 16 rfl rfl) rfl rfl (fun _ => rfl) (fun _ => rfl) (Nat.le_of_ble_eq_true rfl) ?_
  show ab_V _ _ _ _ _ _ _ 41 [some (.ref m), some (.int 69), some (.int 1), some (.int 0), some (.int 69)] [] (h.set m (.inr (12, [p0, p1, p2, .ref (m + 2), p4, p5, p6, p7, p8, .ref (m + 74), p10, p11, p12, p13, p14, p15, p16, p17, p18, p19, p20, .ref (m + 105), p22, .int ((31 * x) + 69), .int 1, p25, p26, p27, p28])))
  refine ab_gen (fun h7 e8 => ?_)
  have c9 : h7[m]? = some (.inr (12, [p0, p1, p2, .ref (m + 2), p4, p5, p6, p7, p8, .ref (m + 74), p10, p11, p12, p13, p14, p15, p16, p17, p18, p19, p20, .ref (m + 105), p22, .int ((31 * x) + 69), .int 1, p25, p26, p27, p28])) := ab_self e8 po
  have fr10 : ab_fr (fun j => j = m) h h7 := ab_fr_set (ab_fr_rf _ _) e8 (by first | (show _ ∧ _; omega) | (show _ ∨ _; omega) | (show _ = _; omega) | (show _ ≤ _; omega))
  clear e8
  refine ab_goto (tgt := 66) d_M_puts_41 (by decide) ?_
  refine ab_iinc (v := (-1)) (lv' := [some (.ref m), some (.int 69), some (.int 1), some (.int (-1)), some (.int 69)]) d_M_puts_66 rfl (by decide) (by decide) rfl ?_
  refine ab_goto (tgt := 4) d_M_puts_69 (by decide) ?_
  refine ab_iload_n d_M_puts_4 rfl rfl ?_
  refine ab_if_lt (tgt := 72) d_M_puts_5 (by decide) (fun q11 => ?_) (fun q11 => by exact absurd (by decide) q11)
  exact ab_vret d_M_puts_72 rfl (Nat.le_refl _) (Nat.le_refl _) (by exact ⟨rfl, c9, fr10⟩)
set_option maxRecDepth 20000 in
set_option maxHeartbeats 2000000 in
theorem r_puts_s1 {h : List ab_E}  {p0 p1 p2 p4 p5 p6 p7 p8 p10 p11 p12 p13 p14 p15 p16 p17 p18 p19 p20 p22 p25 p26 p27 p28 : Value} {m : Nat} {x : Int32}  (po : h[m]? = some (.inr (12, [p0, p1, p2, .ref (m + 2), p4, p5, p6, p7, p8, .ref (m + 74), p10, p11, p12, p13, p14, p15, p16, p17, p18, p19, p20, .ref (m + 105), p22, .int x, .int 1, p25, p26, p27, p28])))  : ab_M y_M_puts { frames := 0, cells := 0, slots := 0, locals := 0 } [.ref m, .int 0, .int 1] h (ab_A none (fun h1 => h1[m]? = some (.inr (12, [p0, p1, p2, .ref (m + 2), p4, p5, p6, p7, p8, .ref (m + 74), p10, p11, p12, p13, p14, p15, p16, p17, p18, p19, p20, .ref (m + 105), p22, .int (hz 1 x), .int 1, p25, p26, p27, p28])) ∧ ab_fr (fun j => j = m) h h1)) := by
  refine ab_of2 (lv := [some (.ref m), some (.int 0), some (.int 1), none, none]) 2 rfl rfl (Nat.le_of_ble_eq_true rfl) ?_
  refine ab_iload_n d_M_puts_0 rfl rfl ?_
  refine ab_iconst (v := 1) d_M_puts_1 (by decide) ?_
  refine ab_isub d_M_puts_2 ?_
  refine ab_topi (fun x1 ex1 => ?_)
  obtain rfl : x1 = 0 := ex1.trans (by decide)
  clear ex1
  refine ab_istore_n (lv' := [some (.ref m), some (.int 0), some (.int 1), some (.int 0), none]) d_M_puts_3 rfl (by decide) rfl ?_
  refine ab_iload_n d_M_puts_4 rfl rfl ?_
  refine ab_if_lt (tgt := 72) d_M_puts_5 (by decide) (fun q2 => by exact absurd q2 (by decide)) (fun q2 => ?_)
  refine ab_iload_n d_M_puts_8 rfl rfl ?_
  refine ab_bipush (v := 8) d_M_puts_9 (by decide) ?_
  refine ab_iload_n d_M_puts_11 rfl rfl ?_
  refine ab_imul d_M_puts_12 ?_
  refine ab_topi (fun x3 ex3 => ?_)
  obtain rfl : x3 = 0 := ex3.trans (by decide)
  clear ex3
  refine ab_ishr d_M_puts_13 ?_
  refine ab_topi (fun x4 ex4 => ?_)
  obtain rfl : x4 = 0 := ex4.trans (by decide)
  clear ex4
  refine ab_sipush (v := 255) d_M_puts_14 (by decide) ?_
  refine ab_iand d_M_puts_17 ?_
  refine ab_topi (fun x5 ex5 => ?_)
  obtain rfl : x5 = 0 := ex5.trans (by decide)
  clear ex5
  refine ab_istore (lv' := [some (.ref m), some (.int 0), some (.int 1), some (.int 0), some (.int 0)]) d_M_puts_18 (by decide) rfl ?_
  refine ab_aload_n d_M_puts_20 rfl rfl rfl ?_
  refine ab_get (f := 24) d_M_puts_21 po rfl (by decide) (k10 17 rfl rfl) rfl ?_
  refine ab_if_eq (tgt := 44) d_M_puts_24 (by decide) (fun q6 => by exact absurd q6 (by decide)) (fun q6 => ?_)
  refine ab_aload_n d_M_puts_27 rfl rfl rfl ?_
  refine ab_bipush (v := 31) d_M_puts_28 (by decide) ?_
  refine ab_aload_n d_M_puts_30 rfl rfl rfl ?_
  refine ab_get (f := 23) d_M_puts_31 po rfl (by decide) (k10 16 rfl rfl) rfl ?_
  refine ab_imul d_M_puts_34 ?_
  refine ab_iload d_M_puts_35 rfl ?_
  refine ab_iadd d_M_puts_37 ?_
  refine ab_put (f := 23) d_M_puts_38 po rfl (by decide) (k10 16 rfl rfl) rfl rfl (fun _ => rfl) (fun _ => rfl) (Nat.le_of_ble_eq_true rfl) ?_
  show ab_V _ _ _ _ _ _ _ 41 [some (.ref m), some (.int 0), some (.int 1), some (.int 0), some (.int 0)] [] (h.set m (.inr (12, [p0, p1, p2, .ref (m + 2), p4, p5, p6, p7, p8, .ref (m + 74), p10, p11, p12, p13, p14, p15, p16, p17, p18, p19, p20, .ref (m + 105), p22, .int ((31 * x) + 0), .int 1, p25, p26, p27, p28])))
  refine ab_gen (fun h7 e8 => ?_)
  have c9 : h7[m]? = some (.inr (12, [p0, p1, p2, .ref (m + 2), p4, p5, p6, p7, p8, .ref (m + 74), p10, p11, p12, p13, p14, p15, p16, p17, p18, p19, p20, .ref (m + 105), p22, .int ((31 * x) + 0), .int 1, p25, p26, p27, p28])) := ab_self e8 po
  have fr10 : ab_fr (fun j => j = m) h h7 := ab_fr_set (ab_fr_rf _ _) e8 (by first | (show _ ∧ _; omega) | (show _ ∨ _; omega) | (show _ = _; omega) | (show _ ≤ _; omega))
  clear e8
  refine ab_goto (tgt := 66) d_M_puts_41 (by decide) ?_
  refine ab_iinc (v := (-1)) (lv' := [some (.ref m), some (.int 0), some (.int 1), some (.int (-1)), some (.int 0)]) d_M_puts_66 rfl (by decide) (by decide) rfl ?_
  refine ab_goto (tgt := 4) d_M_puts_69 (by decide) ?_
  refine ab_iload_n d_M_puts_4 rfl rfl ?_
  refine ab_if_lt (tgt := 72) d_M_puts_5 (by decide) (fun q11 => ?_) (fun q11 => by exact absurd (by decide) q11)
  exact ab_vret d_M_puts_72 rfl (Nat.le_refl _) (Nat.le_refl _) (by exact ⟨rfl, c9, fr10⟩)
set_option maxRecDepth 20000 in
set_option maxHeartbeats 2000000 in
theorem r_puts_s2 {h : List ab_E}  {p0 p1 p2 p4 p5 p6 p7 p8 p10 p11 p12 p13 p14 p15 p16 p17 p18 p19 p20 p22 p25 p26 p27 p28 : Value} {m : Nat} {x : Int32}  (po : h[m]? = some (.inr (12, [p0, p1, p2, .ref (m + 2), p4, p5, p6, p7, p8, .ref (m + 74), p10, p11, p12, p13, p14, p15, p16, p17, p18, p19, p20, .ref (m + 105), p22, .int x, .int 1, p25, p26, p27, p28])))  : ab_M y_M_puts { frames := 0, cells := 0, slots := 0, locals := 0 } [.ref m, .int 0, .int 2] h (ab_A none (fun h1 => h1[m]? = some (.inr (12, [p0, p1, p2, .ref (m + 2), p4, p5, p6, p7, p8, .ref (m + 74), p10, p11, p12, p13, p14, p15, p16, p17, p18, p19, p20, .ref (m + 105), p22, .int (hz 2 x), .int 1, p25, p26, p27, p28])) ∧ ab_fr (fun j => j = m) h h1)) := by
  refine ab_of2 (lv := [some (.ref m), some (.int 0), some (.int 2), none, none]) 2 rfl rfl (Nat.le_of_ble_eq_true rfl) ?_
  refine ab_iload_n d_M_puts_0 rfl rfl ?_
  refine ab_iconst (v := 1) d_M_puts_1 (by decide) ?_
  refine ab_isub d_M_puts_2 ?_
  refine ab_topi (fun x1 ex1 => ?_)
  obtain rfl : x1 = 1 := ex1.trans (by decide)
  clear ex1
  refine ab_istore_n (lv' := [some (.ref m), some (.int 0), some (.int 2), some (.int 1), none]) d_M_puts_3 rfl (by decide) rfl ?_
  refine ab_iload_n d_M_puts_4 rfl rfl ?_
  refine ab_if_lt (tgt := 72) d_M_puts_5 (by decide) (fun q2 => by exact absurd q2 (by decide)) (fun q2 => ?_)
  refine ab_iload_n d_M_puts_8 rfl rfl ?_
  refine ab_bipush (v := 8) d_M_puts_9 (by decide) ?_
  refine ab_iload_n d_M_puts_11 rfl rfl ?_
  refine ab_imul d_M_puts_12 ?_
  refine ab_topi (fun x3 ex3 => ?_)
  obtain rfl : x3 = 8 := ex3.trans (by decide)
  clear ex3
  refine ab_ishr d_M_puts_13 ?_
  refine ab_topi (fun x4 ex4 => ?_)
  obtain rfl : x4 = 0 := ex4.trans (by decide)
  clear ex4
  refine ab_sipush (v := 255) d_M_puts_14 (by decide) ?_
  refine ab_iand d_M_puts_17 ?_
  refine ab_topi (fun x5 ex5 => ?_)
  obtain rfl : x5 = 0 := ex5.trans (by decide)
  clear ex5
  refine ab_istore (lv' := [some (.ref m), some (.int 0), some (.int 2), some (.int 1), some (.int 0)]) d_M_puts_18 (by decide) rfl ?_
  refine ab_aload_n d_M_puts_20 rfl rfl rfl ?_
  refine ab_get (f := 24) d_M_puts_21 po rfl (by decide) (k10 17 rfl rfl) rfl ?_
  refine ab_if_eq (tgt := 44) d_M_puts_24 (by decide) (fun q6 => by exact absurd q6 (by decide)) (fun q6 => ?_)
  refine ab_aload_n d_M_puts_27 rfl rfl rfl ?_
  refine ab_bipush (v := 31) d_M_puts_28 (by decide) ?_
  refine ab_aload_n d_M_puts_30 rfl rfl rfl ?_
  refine ab_get (f := 23) d_M_puts_31 po rfl (by decide) (k10 16 rfl rfl) rfl ?_
  refine ab_imul d_M_puts_34 ?_
  refine ab_iload d_M_puts_35 rfl ?_
  refine ab_iadd d_M_puts_37 ?_
  refine ab_put (f := 23) d_M_puts_38 po rfl (by decide) (k10 16 rfl rfl) rfl rfl (fun _ => rfl) (fun _ => rfl) (Nat.le_of_ble_eq_true rfl) ?_
  show ab_V _ _ _ _ _ _ _ 41 [some (.ref m), some (.int 0), some (.int 2), some (.int 1), some (.int 0)] [] (h.set m (.inr (12, [p0, p1, p2, .ref (m + 2), p4, p5, p6, p7, p8, .ref (m + 74), p10, p11, p12, p13, p14, p15, p16, p17, p18, p19, p20, .ref (m + 105), p22, .int ((31 * x) + 0), .int 1, p25, p26, p27, p28])))
  refine ab_gen (fun h7 e8 => ?_)
  have c9 : h7[m]? = some (.inr (12, [p0, p1, p2, .ref (m + 2), p4, p5, p6, p7, p8, .ref (m + 74), p10, p11, p12, p13, p14, p15, p16, p17, p18, p19, p20, .ref (m + 105), p22, .int ((31 * x) + 0), .int 1, p25, p26, p27, p28])) := ab_self e8 po
  have fr10 : ab_fr (fun j => j = m) h h7 := ab_fr_set (ab_fr_rf _ _) e8 (by first | (show _ ∧ _; omega) | (show _ ∨ _; omega) | (show _ = _; omega) | (show _ ≤ _; omega))
  clear e8
  refine ab_goto (tgt := 66) d_M_puts_41 (by decide) ?_
  refine ab_iinc (v := 0) (lv' := [some (.ref m), some (.int 0), some (.int 2), some (.int 0), some (.int 0)]) d_M_puts_66 rfl (by decide) (by decide) rfl ?_
  refine ab_goto (tgt := 4) d_M_puts_69 (by decide) ?_
  refine ab_iload_n d_M_puts_4 rfl rfl ?_
  refine ab_if_lt (tgt := 72) d_M_puts_5 (by decide) (fun q11 => by exact absurd q11 (by decide)) (fun q11 => ?_)
  refine ab_iload_n d_M_puts_8 rfl rfl ?_
  refine ab_bipush (v := 8) d_M_puts_9 (by decide) ?_
  refine ab_iload_n d_M_puts_11 rfl rfl ?_
  refine ab_imul d_M_puts_12 ?_
  refine ab_topi (fun x12 ex12 => ?_)
  obtain rfl : x12 = 0 := ex12.trans (by decide)
  clear ex12
  refine ab_ishr d_M_puts_13 ?_
  refine ab_topi (fun x13 ex13 => ?_)
  obtain rfl : x13 = 0 := ex13.trans (by decide)
  clear ex13
  refine ab_sipush (v := 255) d_M_puts_14 (by decide) ?_
  refine ab_iand d_M_puts_17 ?_
  refine ab_topi (fun x14 ex14 => ?_)
  obtain rfl : x14 = 0 := ex14.trans (by decide)
  clear ex14
  refine ab_istore (lv' := [some (.ref m), some (.int 0), some (.int 2), some (.int 0), some (.int 0)]) d_M_puts_18 (by decide) rfl ?_
  refine ab_aload_n d_M_puts_20 rfl rfl rfl ?_
  refine ab_get (f := 24) d_M_puts_21 c9 rfl (by decide) (k10 17 rfl rfl) rfl ?_
  refine ab_if_eq (tgt := 44) d_M_puts_24 (by decide) (fun q15 => by exact absurd q15 (by decide)) (fun q15 => ?_)
  refine ab_aload_n d_M_puts_27 rfl rfl rfl ?_
  refine ab_bipush (v := 31) d_M_puts_28 (by decide) ?_
  refine ab_aload_n d_M_puts_30 rfl rfl rfl ?_
  refine ab_get (f := 23) d_M_puts_31 c9 rfl (by decide) (k10 16 rfl rfl) rfl ?_
  refine ab_imul d_M_puts_34 ?_
  refine ab_iload d_M_puts_35 rfl ?_
  refine ab_iadd d_M_puts_37 ?_
  refine ab_topi (fun x16 ex16 => ?_)
  refine ab_put (f := 23) d_M_puts_38 c9 rfl (by decide) (k10 16 rfl rfl) rfl rfl (fun _ => rfl) (fun _ => rfl) (Nat.le_of_ble_eq_true rfl) ?_
  show ab_V _ _ _ _ _ _ _ 41 [some (.ref m), some (.int 0), some (.int 2), some (.int 0), some (.int 0)] [] (h7.set m (.inr (12, [p0, p1, p2, .ref (m + 2), p4, p5, p6, p7, p8, .ref (m + 74), p10, p11, p12, p13, p14, p15, p16, p17, p18, p19, p20, .ref (m + 105), p22, .int x16, .int 1, p25, p26, p27, p28])))
  refine ab_gen (fun h17 e18 => ?_)
  have c19 : h17[m]? = some (.inr (12, [p0, p1, p2, .ref (m + 2), p4, p5, p6, p7, p8, .ref (m + 74), p10, p11, p12, p13, p14, p15, p16, p17, p18, p19, p20, .ref (m + 105), p22, .int x16, .int 1, p25, p26, p27, p28])) := ab_self e18 c9
  have fr20 : ab_fr (fun j => j = m) h h17 := ab_fr_set fr10 e18 (by first | (show _ ∧ _; omega) | (show _ ∨ _; omega) | (show _ = _; omega) | (show _ ≤ _; omega))
  clear c9 fr10 e18
  try clear h7
  refine ab_goto (tgt := 66) d_M_puts_41 (by decide) ?_
  refine ab_iinc (v := (-1)) (lv' := [some (.ref m), some (.int 0), some (.int 2), some (.int (-1)), some (.int 0)]) d_M_puts_66 rfl (by decide) (by decide) rfl ?_
  refine ab_goto (tgt := 4) d_M_puts_69 (by decide) ?_
  refine ab_iload_n d_M_puts_4 rfl rfl ?_
  refine ab_if_lt (tgt := 72) d_M_puts_5 (by decide) (fun q21 => ?_) (fun q21 => by exact absurd (by decide) q21)
  exact ab_vret d_M_puts_72 rfl (Nat.le_refl _) (Nat.le_refl _) (by subst ex16; exact ⟨rfl, c19, fr20⟩)
set_option maxRecDepth 20000 in
set_option maxHeartbeats 2000000 in
theorem r_puts_s4 {h : List ab_E}  {p0 p1 p2 p4 p5 p6 p7 p8 p10 p11 p12 p13 p14 p15 p16 p17 p18 p19 p20 p22 p25 p26 p27 p28 : Value} {m : Nat} {x : Int32}  (po : h[m]? = some (.inr (12, [p0, p1, p2, .ref (m + 2), p4, p5, p6, p7, p8, .ref (m + 74), p10, p11, p12, p13, p14, p15, p16, p17, p18, p19, p20, .ref (m + 105), p22, .int x, .int 1, p25, p26, p27, p28])))  : ab_M y_M_puts { frames := 0, cells := 0, slots := 0, locals := 0 } [.ref m, .int 0, .int 4] h (ab_A none (fun h1 => h1[m]? = some (.inr (12, [p0, p1, p2, .ref (m + 2), p4, p5, p6, p7, p8, .ref (m + 74), p10, p11, p12, p13, p14, p15, p16, p17, p18, p19, p20, .ref (m + 105), p22, .int (hz 4 x), .int 1, p25, p26, p27, p28])) ∧ ab_fr (fun j => j = m) h h1)) := by
  refine ab_of2 (lv := [some (.ref m), some (.int 0), some (.int 4), none, none]) 2 rfl rfl (Nat.le_of_ble_eq_true rfl) ?_
  refine ab_iload_n d_M_puts_0 rfl rfl ?_
  refine ab_iconst (v := 1) d_M_puts_1 (by decide) ?_
  refine ab_isub d_M_puts_2 ?_
  refine ab_topi (fun x1 ex1 => ?_)
  obtain rfl : x1 = 3 := ex1.trans (by decide)
  clear ex1
  refine ab_istore_n (lv' := [some (.ref m), some (.int 0), some (.int 4), some (.int 3), none]) d_M_puts_3 rfl (by decide) rfl ?_
  refine ab_iload_n d_M_puts_4 rfl rfl ?_
  refine ab_if_lt (tgt := 72) d_M_puts_5 (by decide) (fun q2 => by exact absurd q2 (by decide)) (fun q2 => ?_)
  refine ab_iload_n d_M_puts_8 rfl rfl ?_
  refine ab_bipush (v := 8) d_M_puts_9 (by decide) ?_
  refine ab_iload_n d_M_puts_11 rfl rfl ?_
  refine ab_imul d_M_puts_12 ?_
  refine ab_topi (fun x3 ex3 => ?_)
  obtain rfl : x3 = 24 := ex3.trans (by decide)
  clear ex3
  refine ab_ishr d_M_puts_13 ?_
  refine ab_topi (fun x4 ex4 => ?_)
  obtain rfl : x4 = 0 := ex4.trans (by decide)
  clear ex4
  refine ab_sipush (v := 255) d_M_puts_14 (by decide) ?_
  refine ab_iand d_M_puts_17 ?_
  refine ab_topi (fun x5 ex5 => ?_)
  obtain rfl : x5 = 0 := ex5.trans (by decide)
  clear ex5
  refine ab_istore (lv' := [some (.ref m), some (.int 0), some (.int 4), some (.int 3), some (.int 0)]) d_M_puts_18 (by decide) rfl ?_
  refine ab_aload_n d_M_puts_20 rfl rfl rfl ?_
  refine ab_get (f := 24) d_M_puts_21 po rfl (by decide) (k10 17 rfl rfl) rfl ?_
  refine ab_if_eq (tgt := 44) d_M_puts_24 (by decide) (fun q6 => by exact absurd q6 (by decide)) (fun q6 => ?_)
  refine ab_aload_n d_M_puts_27 rfl rfl rfl ?_
  refine ab_bipush (v := 31) d_M_puts_28 (by decide) ?_
  refine ab_aload_n d_M_puts_30 rfl rfl rfl ?_
  refine ab_get (f := 23) d_M_puts_31 po rfl (by decide) (k10 16 rfl rfl) rfl ?_
  refine ab_imul d_M_puts_34 ?_
  refine ab_iload d_M_puts_35 rfl ?_
  refine ab_iadd d_M_puts_37 ?_
  refine ab_put (f := 23) d_M_puts_38 po rfl (by decide) (k10 16 rfl rfl) rfl rfl (fun _ => rfl) (fun _ => rfl) (Nat.le_of_ble_eq_true rfl) ?_
  show ab_V _ _ _ _ _ _ _ 41 [some (.ref m), some (.int 0), some (.int 4), some (.int 3), some (.int 0)] [] (h.set m (.inr (12, [p0, p1, p2, .ref (m + 2), p4, p5, p6, p7, p8, .ref (m + 74), p10, p11, p12, p13, p14, p15, p16, p17, p18, p19, p20, .ref (m + 105), p22, .int ((31 * x) + 0), .int 1, p25, p26, p27, p28])))
  refine ab_gen (fun h7 e8 => ?_)
  have c9 : h7[m]? = some (.inr (12, [p0, p1, p2, .ref (m + 2), p4, p5, p6, p7, p8, .ref (m + 74), p10, p11, p12, p13, p14, p15, p16, p17, p18, p19, p20, .ref (m + 105), p22, .int ((31 * x) + 0), .int 1, p25, p26, p27, p28])) := ab_self e8 po
  have fr10 : ab_fr (fun j => j = m) h h7 := ab_fr_set (ab_fr_rf _ _) e8 (by first | (show _ ∧ _; omega) | (show _ ∨ _; omega) | (show _ = _; omega) | (show _ ≤ _; omega))
  clear e8
  refine ab_goto (tgt := 66) d_M_puts_41 (by decide) ?_
  refine ab_iinc (v := 2) (lv' := [some (.ref m), some (.int 0), some (.int 4), some (.int 2), some (.int 0)]) d_M_puts_66 rfl (by decide) (by decide) rfl ?_
  refine ab_goto (tgt := 4) d_M_puts_69 (by decide) ?_
  refine ab_iload_n d_M_puts_4 rfl rfl ?_
  refine ab_if_lt (tgt := 72) d_M_puts_5 (by decide) (fun q11 => by exact absurd q11 (by decide)) (fun q11 => ?_)
  refine ab_iload_n d_M_puts_8 rfl rfl ?_
  refine ab_bipush (v := 8) d_M_puts_9 (by decide) ?_
  refine ab_iload_n d_M_puts_11 rfl rfl ?_
  refine ab_imul d_M_puts_12 ?_
  refine ab_topi (fun x12 ex12 => ?_)
  obtain rfl : x12 = 16 := ex12.trans (by decide)
  clear ex12
  refine ab_ishr d_M_puts_13 ?_
  refine ab_topi (fun x13 ex13 => ?_)
  obtain rfl : x13 = 0 := ex13.trans (by decide)
  clear ex13
  refine ab_sipush (v := 255) d_M_puts_14 (by decide) ?_
  refine ab_iand d_M_puts_17 ?_
  refine ab_topi (fun x14 ex14 => ?_)
  obtain rfl : x14 = 0 := ex14.trans (by decide)
  clear ex14
  refine ab_istore (lv' := [some (.ref m), some (.int 0), some (.int 4), some (.int 2), some (.int 0)]) d_M_puts_18 (by decide) rfl ?_
  refine ab_aload_n d_M_puts_20 rfl rfl rfl ?_
  refine ab_get (f := 24) d_M_puts_21 c9 rfl (by decide) (k10 17 rfl rfl) rfl ?_
  refine ab_if_eq (tgt := 44) d_M_puts_24 (by decide) (fun q15 => by exact absurd q15 (by decide)) (fun q15 => ?_)
  refine ab_aload_n d_M_puts_27 rfl rfl rfl ?_
  refine ab_bipush (v := 31) d_M_puts_28 (by decide) ?_
  refine ab_aload_n d_M_puts_30 rfl rfl rfl ?_
  refine ab_get (f := 23) d_M_puts_31 c9 rfl (by decide) (k10 16 rfl rfl) rfl ?_
  refine ab_imul d_M_puts_34 ?_
  refine ab_iload d_M_puts_35 rfl ?_
  refine ab_iadd d_M_puts_37 ?_
  refine ab_topi (fun x16 ex16 => ?_)
  refine ab_put (f := 23) d_M_puts_38 c9 rfl (by decide) (k10 16 rfl rfl) rfl rfl (fun _ => rfl) (fun _ => rfl) (Nat.le_of_ble_eq_true rfl) ?_
  show ab_V _ _ _ _ _ _ _ 41 [some (.ref m), some (.int 0), some (.int 4), some (.int 2), some (.int 0)] [] (h7.set m (.inr (12, [p0, p1, p2, .ref (m + 2), p4, p5, p6, p7, p8, .ref (m + 74), p10, p11, p12, p13, p14, p15, p16, p17, p18, p19, p20, .ref (m + 105), p22, .int x16, .int 1, p25, p26, p27, p28])))
  refine ab_gen (fun h17 e18 => ?_)
  have c19 : h17[m]? = some (.inr (12, [p0, p1, p2, .ref (m + 2), p4, p5, p6, p7, p8, .ref (m + 74), p10, p11, p12, p13, p14, p15, p16, p17, p18, p19, p20, .ref (m + 105), p22, .int x16, .int 1, p25, p26, p27, p28])) := ab_self e18 c9
  have fr20 : ab_fr (fun j => j = m) h h17 := ab_fr_set fr10 e18 (by first | (show _ ∧ _; omega) | (show _ ∨ _; omega) | (show _ = _; omega) | (show _ ≤ _; omega))
  clear c9 fr10 e18
  try clear h7
  refine ab_goto (tgt := 66) d_M_puts_41 (by decide) ?_
  refine ab_iinc (v := 1) (lv' := [some (.ref m), some (.int 0), some (.int 4), some (.int 1), some (.int 0)]) d_M_puts_66 rfl (by decide) (by decide) rfl ?_
  refine ab_goto (tgt := 4) d_M_puts_69 (by decide) ?_
  refine ab_iload_n d_M_puts_4 rfl rfl ?_
  refine ab_if_lt (tgt := 72) d_M_puts_5 (by decide) (fun q21 => by exact absurd q21 (by decide)) (fun q21 => ?_)
  refine ab_iload_n d_M_puts_8 rfl rfl ?_
  refine ab_bipush (v := 8) d_M_puts_9 (by decide) ?_
  refine ab_iload_n d_M_puts_11 rfl rfl ?_
  refine ab_imul d_M_puts_12 ?_
  refine ab_topi (fun x22 ex22 => ?_)
  obtain rfl : x22 = 8 := ex22.trans (by decide)
  clear ex22
  refine ab_ishr d_M_puts_13 ?_
  refine ab_topi (fun x23 ex23 => ?_)
  obtain rfl : x23 = 0 := ex23.trans (by decide)
  clear ex23
  refine ab_sipush (v := 255) d_M_puts_14 (by decide) ?_
  refine ab_iand d_M_puts_17 ?_
  refine ab_topi (fun x24 ex24 => ?_)
  obtain rfl : x24 = 0 := ex24.trans (by decide)
  clear ex24
  refine ab_istore (lv' := [some (.ref m), some (.int 0), some (.int 4), some (.int 1), some (.int 0)]) d_M_puts_18 (by decide) rfl ?_
  refine ab_aload_n d_M_puts_20 rfl rfl rfl ?_
  refine ab_get (f := 24) d_M_puts_21 c19 rfl (by decide) (k10 17 rfl rfl) rfl ?_
  refine ab_if_eq (tgt := 44) d_M_puts_24 (by decide) (fun q25 => by exact absurd q25 (by decide)) (fun q25 => ?_)
  refine ab_aload_n d_M_puts_27 rfl rfl rfl ?_
  refine ab_bipush (v := 31) d_M_puts_28 (by decide) ?_
  refine ab_aload_n d_M_puts_30 rfl rfl rfl ?_
  refine ab_get (f := 23) d_M_puts_31 c19 rfl (by decide) (k10 16 rfl rfl) rfl ?_
  refine ab_imul d_M_puts_34 ?_
  refine ab_iload d_M_puts_35 rfl ?_
  refine ab_iadd d_M_puts_37 ?_
  refine ab_put (f := 23) d_M_puts_38 c19 rfl (by decide) (k10 16 rfl rfl) rfl rfl (fun _ => rfl) (fun _ => rfl) (Nat.le_of_ble_eq_true rfl) ?_
  show ab_V _ _ _ _ _ _ _ 41 [some (.ref m), some (.int 0), some (.int 4), some (.int 1), some (.int 0)] [] (h17.set m (.inr (12, [p0, p1, p2, .ref (m + 2), p4, p5, p6, p7, p8, .ref (m + 74), p10, p11, p12, p13, p14, p15, p16, p17, p18, p19, p20, .ref (m + 105), p22, .int ((31 * x16) + 0), .int 1, p25, p26, p27, p28])))
  refine ab_gen (fun h26 e27 => ?_)
  have c28 : h26[m]? = some (.inr (12, [p0, p1, p2, .ref (m + 2), p4, p5, p6, p7, p8, .ref (m + 74), p10, p11, p12, p13, p14, p15, p16, p17, p18, p19, p20, .ref (m + 105), p22, .int ((31 * x16) + 0), .int 1, p25, p26, p27, p28])) := ab_self e27 c19
  have fr29 : ab_fr (fun j => j = m) h h26 := ab_fr_set fr20 e27 (by first | (show _ ∧ _; omega) | (show _ ∨ _; omega) | (show _ = _; omega) | (show _ ≤ _; omega))
  clear c19 fr20 e27
  try clear h17
  refine ab_goto (tgt := 66) d_M_puts_41 (by decide) ?_
  refine ab_iinc (v := 0) (lv' := [some (.ref m), some (.int 0), some (.int 4), some (.int 0), some (.int 0)]) d_M_puts_66 rfl (by decide) (by decide) rfl ?_
  refine ab_goto (tgt := 4) d_M_puts_69 (by decide) ?_
  refine ab_iload_n d_M_puts_4 rfl rfl ?_
  refine ab_if_lt (tgt := 72) d_M_puts_5 (by decide) (fun q30 => by exact absurd q30 (by decide)) (fun q30 => ?_)
  refine ab_iload_n d_M_puts_8 rfl rfl ?_
  refine ab_bipush (v := 8) d_M_puts_9 (by decide) ?_
  refine ab_iload_n d_M_puts_11 rfl rfl ?_
  refine ab_imul d_M_puts_12 ?_
  refine ab_topi (fun x31 ex31 => ?_)
  obtain rfl : x31 = 0 := ex31.trans (by decide)
  clear ex31
  refine ab_ishr d_M_puts_13 ?_
  refine ab_topi (fun x32 ex32 => ?_)
  obtain rfl : x32 = 0 := ex32.trans (by decide)
  clear ex32
  refine ab_sipush (v := 255) d_M_puts_14 (by decide) ?_
  refine ab_iand d_M_puts_17 ?_
  refine ab_topi (fun x33 ex33 => ?_)
  obtain rfl : x33 = 0 := ex33.trans (by decide)
  clear ex33
  refine ab_istore (lv' := [some (.ref m), some (.int 0), some (.int 4), some (.int 0), some (.int 0)]) d_M_puts_18 (by decide) rfl ?_
  refine ab_aload_n d_M_puts_20 rfl rfl rfl ?_
  refine ab_get (f := 24) d_M_puts_21 c28 rfl (by decide) (k10 17 rfl rfl) rfl ?_
  refine ab_if_eq (tgt := 44) d_M_puts_24 (by decide) (fun q34 => by exact absurd q34 (by decide)) (fun q34 => ?_)
  refine ab_aload_n d_M_puts_27 rfl rfl rfl ?_
  refine ab_bipush (v := 31) d_M_puts_28 (by decide) ?_
  refine ab_aload_n d_M_puts_30 rfl rfl rfl ?_
  refine ab_get (f := 23) d_M_puts_31 c28 rfl (by decide) (k10 16 rfl rfl) rfl ?_
  refine ab_imul d_M_puts_34 ?_
  refine ab_iload d_M_puts_35 rfl ?_
  refine ab_iadd d_M_puts_37 ?_
  refine ab_topi (fun x35 ex35 => ?_)
  refine ab_put (f := 23) d_M_puts_38 c28 rfl (by decide) (k10 16 rfl rfl) rfl rfl (fun _ => rfl) (fun _ => rfl) (Nat.le_of_ble_eq_true rfl) ?_
  show ab_V _ _ _ _ _ _ _ 41 [some (.ref m), some (.int 0), some (.int 4), some (.int 0), some (.int 0)] [] (h26.set m (.inr (12, [p0, p1, p2, .ref (m + 2), p4, p5, p6, p7, p8, .ref (m + 74), p10, p11, p12, p13, p14, p15, p16, p17, p18, p19, p20, .ref (m + 105), p22, .int x35, .int 1, p25, p26, p27, p28])))
  refine ab_gen (fun h36 e37 => ?_)
  have c38 : h36[m]? = some (.inr (12, [p0, p1, p2, .ref (m + 2), p4, p5, p6, p7, p8, .ref (m + 74), p10, p11, p12, p13, p14, p15, p16, p17, p18, p19, p20, .ref (m + 105), p22, .int x35, .int 1, p25, p26, p27, p28])) := ab_self e37 c28
  have fr39 : ab_fr (fun j => j = m) h h36 := ab_fr_set fr29 e37 (by first | (show _ ∧ _; omega) | (show _ ∨ _; omega) | (show _ = _; omega) | (show _ ≤ _; omega))
  clear c28 fr29 e37
  try clear h26
  refine ab_goto (tgt := 66) d_M_puts_41 (by decide) ?_
  refine ab_iinc (v := (-1)) (lv' := [some (.ref m), some (.int 0), some (.int 4), some (.int (-1)), some (.int 0)]) d_M_puts_66 rfl (by decide) (by decide) rfl ?_
  refine ab_goto (tgt := 4) d_M_puts_69 (by decide) ?_
  refine ab_iload_n d_M_puts_4 rfl rfl ?_
  refine ab_if_lt (tgt := 72) d_M_puts_5 (by decide) (fun q40 => ?_) (fun q40 => by exact absurd (by decide) q40)
  exact ab_vret d_M_puts_72 rfl (Nat.le_refl _) (Nat.le_refl _) (by subst ex16; subst ex35; exact ⟨rfl, c38, fr39⟩)
set_option maxRecDepth 20000 in
set_option maxHeartbeats 2000000 in
theorem r_puts_o87 {h : List ab_E}  {p0 p1 p2 p4 p5 p6 p7 p8 p10 p11 p12 p13 p14 p15 p16 p17 p18 p19 p20 p23 p25 p26 p27 p28 : Value} {qf : Nat → Int32} {m : Nat} {k : Nat}  (po : h[m]? = some (.inr (12, [p0, p1, p2, .ref (m + 2), p4, p5, p6, p7, p8, .ref (m + 74), p10, p11, p12, p13, p14, p15, p16, p17, p18, p19, p20, .ref (m + 105), .int (nI k), p23, .int 0, p25, p26, p27, p28]))) (qa : h[m + 105]? = some (.inl (.byte, 58000, .inl qf))) (hk : k + 1 ≤ 58000) : ab_M y_M_puts { frames := 0, cells := 0, slots := 0, locals := 0 } [.ref m, .int 87, .int 1] h (ab_A none (fun h1 => ∃ f : Nat → Int32, h1[m]? = some (.inr (12, [p0, p1, p2, .ref (m + 2), p4, p5, p6, p7, p8, .ref (m + 74), p10, p11, p12, p13, p14, p15, p16, p17, p18, p19, p20, .ref (m + 105), .int (nI (k + 1)), p23, .int 0, p25, p26, p27, p28])) ∧ h1[m+105]? = some (.inl (.byte, 58000, .inl f)) ∧ ab_fr (fun j => j = m ∨ j = m+105) h h1)) := by
  refine ab_of2 (lv := [some (.ref m), some (.int 87), some (.int 1), none, none]) 2 rfl rfl (Nat.le_of_ble_eq_true rfl) ?_
  refine ab_iload_n d_M_puts_0 rfl rfl ?_
  refine ab_iconst (v := 1) d_M_puts_1 (by decide) ?_
  refine ab_isub d_M_puts_2 ?_
  refine ab_topi (fun x1 ex1 => ?_)
  obtain rfl : x1 = 0 := ex1.trans (by decide)
  clear ex1
  refine ab_istore_n (lv' := [some (.ref m), some (.int 87), some (.int 1), some (.int 0), none]) d_M_puts_3 rfl (by decide) rfl ?_
  refine ab_iload_n d_M_puts_4 rfl rfl ?_
  refine ab_if_lt (tgt := 72) d_M_puts_5 (by decide) (fun q2 => by exact absurd q2 (by decide)) (fun q2 => ?_)
  refine ab_iload_n d_M_puts_8 rfl rfl ?_
  refine ab_bipush (v := 8) d_M_puts_9 (by decide) ?_
  refine ab_iload_n d_M_puts_11 rfl rfl ?_
  refine ab_imul d_M_puts_12 ?_
  refine ab_topi (fun x3 ex3 => ?_)
  obtain rfl : x3 = 0 := ex3.trans (by decide)
  clear ex3
  refine ab_ishr d_M_puts_13 ?_
  refine ab_topi (fun x4 ex4 => ?_)
  obtain rfl : x4 = 87 := ex4.trans (by decide)
  clear ex4
  refine ab_sipush (v := 255) d_M_puts_14 (by decide) ?_
  refine ab_iand d_M_puts_17 ?_
  refine ab_topi (fun x5 ex5 => ?_)
  obtain rfl : x5 = 87 := ex5.trans (by decide)
  clear ex5
  refine ab_istore (lv' := [some (.ref m), some (.int 87), some (.int 1), some (.int 0), some (.int 87)]) d_M_puts_18 (by decide) rfl ?_
  refine ab_aload_n d_M_puts_20 rfl rfl rfl ?_
  refine ab_get (f := 24) d_M_puts_21 po rfl (by decide) (k10 17 rfl rfl) rfl ?_
  refine ab_if_eq (tgt := 44) d_M_puts_24 (by decide) (fun q6 => ?_) (fun q6 => by exact absurd (by decide) q6)
  refine ab_aload_n d_M_puts_44 rfl rfl rfl ?_
  refine ab_get (f := 21) d_M_puts_45 po rfl (by decide) (k10 14 rfl rfl) rfl ?_
  refine ab_aload_n d_M_puts_48 rfl rfl rfl ?_
  refine ab_get (f := 22) d_M_puts_49 po rfl (by decide) (k10 15 rfl rfl) rfl ?_
  refine ab_iload d_M_puts_52 rfl ?_
  refine ab_i2b d_M_puts_54 ?_
  refine ab_topi (fun x7 ex7 => ?_)
  obtain rfl : x7 = 87 := ex7.trans (by decide)
  clear ex7
  refine ab_bast d_M_puts_55 tB qa (vp_in_nI (by omega) (by decide)) ?_
  refine ab_gen (fun h8 e9 => ?_)
  have c10 : h8[m]? = some (.inr (12, [p0, p1, p2, .ref (m + 2), p4, p5, p6, p7, p8, .ref (m + 74), p10, p11, p12, p13, p14, p15, p16, p17, p18, p19, p20, .ref (m + 105), .int (nI k), p23, .int 0, p25, p26, p27, p28])) := ab_other e9 (by omega) po
  have c11 : h8[m+105]? = some (.inl (.byte, 58000, .inl (upd qf ((nI k)).toNatClampNeg (vp_nar .byte 87)))) := ab_self e9 qa
  have fr12 : ab_fr (fun j => j = m ∨ j = m+105) h h8 := ab_fr_set (ab_fr_rf _ _) e9 (by first | (show _ ∧ _; omega) | (show _ ∨ _; omega) | (show _ = _; omega) | (show _ ≤ _; omega))
  clear e9
  obtain ⟨y13, c14⟩ : ∃ f : Nat → Int32, h8[m+105]? = some (.inl (.byte, 58000, .inl f)) := ⟨_, c11⟩
  clear c11
  refine ab_aload_n d_M_puts_56 rfl rfl rfl ?_
  refine ab_dup d_M_puts_57 rfl ?_
  refine ab_get (f := 22) d_M_puts_58 c10 rfl (by decide) (k10 15 rfl rfl) rfl ?_
  refine ab_iconst (v := 1) d_M_puts_61 (by decide) ?_
  refine ab_iadd d_M_puts_62 ?_
  refine ab_topi (fun x15 ex15 => ?_)
  obtain rfl : x15 = nI (k + 1) := ex15.trans (nI_1 _)
  clear ex15
  refine ab_put (f := 22) d_M_puts_63 c10 rfl (by decide) (k10 15 rfl rfl) rfl rfl (fun _ => rfl) (fun _ => rfl) (Nat.le_of_ble_eq_true rfl) ?_
  show ab_V _ _ _ _ _ _ _ 66 [some (.ref m), some (.int 87), some (.int 1), some (.int 0), some (.int 87)] [] (h8.set m (.inr (12, [p0, p1, p2, .ref (m + 2), p4, p5, p6, p7, p8, .ref (m + 74), p10, p11, p12, p13, p14, p15, p16, p17, p18, p19, p20, .ref (m + 105), .int (nI (k + 1)), p23, .int 0, p25, p26, p27, p28])))
  refine ab_gen (fun h16 e17 => ?_)
  have c18 : h16[m]? = some (.inr (12, [p0, p1, p2, .ref (m + 2), p4, p5, p6, p7, p8, .ref (m + 74), p10, p11, p12, p13, p14, p15, p16, p17, p18, p19, p20, .ref (m + 105), .int (nI (k + 1)), p23, .int 0, p25, p26, p27, p28])) := ab_self e17 c10
  have c19 : h16[m+105]? = some (.inl (.byte, 58000, .inl y13)) := ab_other e17 (by omega) c14
  have fr20 : ab_fr (fun j => j = m ∨ j = m+105) h h16 := ab_fr_set fr12 e17 (by first | (show _ ∧ _; omega) | (show _ ∨ _; omega) | (show _ = _; omega) | (show _ ≤ _; omega))
  clear c10 c14 fr12 e17
  try clear h8
  refine ab_iinc (v := (-1)) (lv' := [some (.ref m), some (.int 87), some (.int 1), some (.int (-1)), some (.int 87)]) d_M_puts_66 rfl (by decide) (by decide) rfl ?_
  refine ab_goto (tgt := 4) d_M_puts_69 (by decide) ?_
  refine ab_iload_n d_M_puts_4 rfl rfl ?_
  refine ab_if_lt (tgt := 72) d_M_puts_5 (by decide) (fun q21 => ?_) (fun q21 => by exact absurd (by decide) q21)
  exact ab_vret d_M_puts_72 rfl (Nat.le_refl _) (Nat.le_refl _) (by exact ⟨rfl, _, c18, c19, fr20⟩)
set_option maxRecDepth 20000 in
set_option maxHeartbeats 2000000 in
theorem r_puts_o69 {h : List ab_E}  {p0 p1 p2 p4 p5 p6 p7 p8 p10 p11 p12 p13 p14 p15 p16 p17 p18 p19 p20 p23 p25 p26 p27 p28 : Value} {qf : Nat → Int32} {m : Nat} {k : Nat}  (po : h[m]? = some (.inr (12, [p0, p1, p2, .ref (m + 2), p4, p5, p6, p7, p8, .ref (m + 74), p10, p11, p12, p13, p14, p15, p16, p17, p18, p19, p20, .ref (m + 105), .int (nI k), p23, .int 0, p25, p26, p27, p28]))) (qa : h[m + 105]? = some (.inl (.byte, 58000, .inl qf))) (hk : k + 1 ≤ 58000) : ab_M y_M_puts { frames := 0, cells := 0, slots := 0, locals := 0 } [.ref m, .int 69, .int 1] h (ab_A none (fun h1 => ∃ f : Nat → Int32, h1[m]? = some (.inr (12, [p0, p1, p2, .ref (m + 2), p4, p5, p6, p7, p8, .ref (m + 74), p10, p11, p12, p13, p14, p15, p16, p17, p18, p19, p20, .ref (m + 105), .int (nI (k + 1)), p23, .int 0, p25, p26, p27, p28])) ∧ h1[m+105]? = some (.inl (.byte, 58000, .inl f)) ∧ ab_fr (fun j => j = m ∨ j = m+105) h h1)) := by
  refine ab_of2 (lv := [some (.ref m), some (.int 69), some (.int 1), none, none]) 2 rfl rfl (Nat.le_of_ble_eq_true rfl) ?_
  refine ab_iload_n d_M_puts_0 rfl rfl ?_
  refine ab_iconst (v := 1) d_M_puts_1 (by decide) ?_
  refine ab_isub d_M_puts_2 ?_
  refine ab_topi (fun x1 ex1 => ?_)
  obtain rfl : x1 = 0 := ex1.trans (by decide)
  clear ex1
  refine ab_istore_n (lv' := [some (.ref m), some (.int 69), some (.int 1), some (.int 0), none]) d_M_puts_3 rfl (by decide) rfl ?_
  refine ab_iload_n d_M_puts_4 rfl rfl ?_
  refine ab_if_lt (tgt := 72) d_M_puts_5 (by decide) (fun q2 => by exact absurd q2 (by decide)) (fun q2 => ?_)
  refine ab_iload_n d_M_puts_8 rfl rfl ?_
  refine ab_bipush (v := 8) d_M_puts_9 (by decide) ?_
  refine ab_iload_n d_M_puts_11 rfl rfl ?_
  refine ab_imul d_M_puts_12 ?_
  refine ab_topi (fun x3 ex3 => ?_)
  obtain rfl : x3 = 0 := ex3.trans (by decide)
  clear ex3
  refine ab_ishr d_M_puts_13 ?_
  refine ab_topi (fun x4 ex4 => ?_)
  obtain rfl : x4 = 69 := ex4.trans (by decide)
  clear ex4
  refine ab_sipush (v := 255) d_M_puts_14 (by decide) ?_
  refine ab_iand d_M_puts_17 ?_
  refine ab_topi (fun x5 ex5 => ?_)
  obtain rfl : x5 = 69 := ex5.trans (by decide)
  clear ex5
  refine ab_istore (lv' := [some (.ref m), some (.int 69), some (.int 1), some (.int 0), some (.int 69)]) d_M_puts_18 (by decide) rfl ?_
  refine ab_aload_n d_M_puts_20 rfl rfl rfl ?_
  refine ab_get (f := 24) d_M_puts_21 po rfl (by decide) (k10 17 rfl rfl) rfl ?_
  refine ab_if_eq (tgt := 44) d_M_puts_24 (by decide) (fun q6 => ?_) (fun q6 => by exact absurd (by decide) q6)
  refine ab_aload_n d_M_puts_44 rfl rfl rfl ?_
  refine ab_get (f := 21) d_M_puts_45 po rfl (by decide) (k10 14 rfl rfl) rfl ?_
  refine ab_aload_n d_M_puts_48 rfl rfl rfl ?_
  refine ab_get (f := 22) d_M_puts_49 po rfl (by decide) (k10 15 rfl rfl) rfl ?_
  refine ab_iload d_M_puts_52 rfl ?_
  refine ab_i2b d_M_puts_54 ?_
  refine ab_topi (fun x7 ex7 => ?_)
  obtain rfl : x7 = 69 := ex7.trans (by decide)
  clear ex7
  refine ab_bast d_M_puts_55 tB qa (vp_in_nI (by omega) (by decide)) ?_
  refine ab_gen (fun h8 e9 => ?_)
  have c10 : h8[m]? = some (.inr (12, [p0, p1, p2, .ref (m + 2), p4, p5, p6, p7, p8, .ref (m + 74), p10, p11, p12, p13, p14, p15, p16, p17, p18, p19, p20, .ref (m + 105), .int (nI k), p23, .int 0, p25, p26, p27, p28])) := ab_other e9 (by omega) po
  have c11 : h8[m+105]? = some (.inl (.byte, 58000, .inl (upd qf ((nI k)).toNatClampNeg (vp_nar .byte 69)))) := ab_self e9 qa
  have fr12 : ab_fr (fun j => j = m ∨ j = m+105) h h8 := ab_fr_set (ab_fr_rf _ _) e9 (by first | (show _ ∧ _; omega) | (show _ ∨ _; omega) | (show _ = _; omega) | (show _ ≤ _; omega))
  clear e9
  obtain ⟨y13, c14⟩ : ∃ f : Nat → Int32, h8[m+105]? = some (.inl (.byte, 58000, .inl f)) := ⟨_, c11⟩
  clear c11
  refine ab_aload_n d_M_puts_56 rfl rfl rfl ?_
  refine ab_dup d_M_puts_57 rfl ?_
  refine ab_get (f := 22) d_M_puts_58 c10 rfl (by decide) (k10 15 rfl rfl) rfl ?_
  refine ab_iconst (v := 1) d_M_puts_61 (by decide) ?_
  refine ab_iadd d_M_puts_62 ?_
  refine ab_topi (fun x15 ex15 => ?_)
  obtain rfl : x15 = nI (k + 1) := ex15.trans (nI_1 _)
  clear ex15
  refine ab_put (f := 22) d_M_puts_63 c10 rfl (by decide) (k10 15 rfl rfl) rfl rfl (fun _ => rfl) (fun _ => rfl) (Nat.le_of_ble_eq_true rfl) ?_
  show ab_V _ _ _ _ _ _ _ 66 [some (.ref m), some (.int 69), some (.int 1), some (.int 0), some (.int 69)] [] (h8.set m (.inr (12, [p0, p1, p2, .ref (m + 2), p4, p5, p6, p7, p8, .ref (m + 74), p10, p11, p12, p13, p14, p15, p16, p17, p18, p19, p20, .ref (m + 105), .int (nI (k + 1)), p23, .int 0, p25, p26, p27, p28])))
  refine ab_gen (fun h16 e17 => ?_)
  have c18 : h16[m]? = some (.inr (12, [p0, p1, p2, .ref (m + 2), p4, p5, p6, p7, p8, .ref (m + 74), p10, p11, p12, p13, p14, p15, p16, p17, p18, p19, p20, .ref (m + 105), .int (nI (k + 1)), p23, .int 0, p25, p26, p27, p28])) := ab_self e17 c10
  have c19 : h16[m+105]? = some (.inl (.byte, 58000, .inl y13)) := ab_other e17 (by omega) c14
  have fr20 : ab_fr (fun j => j = m ∨ j = m+105) h h16 := ab_fr_set fr12 e17 (by first | (show _ ∧ _; omega) | (show _ ∨ _; omega) | (show _ = _; omega) | (show _ ≤ _; omega))
  clear c10 c14 fr12 e17
  try clear h8
  refine ab_iinc (v := (-1)) (lv' := [some (.ref m), some (.int 69), some (.int 1), some (.int (-1)), some (.int 69)]) d_M_puts_66 rfl (by decide) (by decide) rfl ?_
  refine ab_goto (tgt := 4) d_M_puts_69 (by decide) ?_
  refine ab_iload_n d_M_puts_4 rfl rfl ?_
  refine ab_if_lt (tgt := 72) d_M_puts_5 (by decide) (fun q21 => ?_) (fun q21 => by exact absurd (by decide) q21)
  exact ab_vret d_M_puts_72 rfl (Nat.le_refl _) (Nat.le_refl _) (by exact ⟨rfl, _, c18, c19, fr20⟩)
set_option maxRecDepth 20000 in
set_option maxHeartbeats 2000000 in
theorem r_puts_o1 {h : List ab_E}  {p0 p1 p2 p4 p5 p6 p7 p8 p10 p11 p12 p13 p14 p15 p16 p17 p18 p19 p20 p23 p25 p26 p27 p28 : Value} {qf : Nat → Int32} {m : Nat} {k : Nat}  (po : h[m]? = some (.inr (12, [p0, p1, p2, .ref (m + 2), p4, p5, p6, p7, p8, .ref (m + 74), p10, p11, p12, p13, p14, p15, p16, p17, p18, p19, p20, .ref (m + 105), .int (nI k), p23, .int 0, p25, p26, p27, p28]))) (qa : h[m + 105]? = some (.inl (.byte, 58000, .inl qf))) (hk : k + 1 ≤ 58000) : ab_M y_M_puts { frames := 0, cells := 0, slots := 0, locals := 0 } [.ref m, .int 0, .int 1] h (ab_A none (fun h1 => ∃ f : Nat → Int32, h1[m]? = some (.inr (12, [p0, p1, p2, .ref (m + 2), p4, p5, p6, p7, p8, .ref (m + 74), p10, p11, p12, p13, p14, p15, p16, p17, p18, p19, p20, .ref (m + 105), .int (nI (k + 1)), p23, .int 0, p25, p26, p27, p28])) ∧ h1[m+105]? = some (.inl (.byte, 58000, .inl f)) ∧ ab_fr (fun j => j = m ∨ j = m+105) h h1)) := by
  refine ab_of2 (lv := [some (.ref m), some (.int 0), some (.int 1), none, none]) 2 rfl rfl (Nat.le_of_ble_eq_true rfl) ?_
  refine ab_iload_n d_M_puts_0 rfl rfl ?_
  refine ab_iconst (v := 1) d_M_puts_1 (by decide) ?_
  refine ab_isub d_M_puts_2 ?_
  refine ab_topi (fun x1 ex1 => ?_)
  obtain rfl : x1 = 0 := ex1.trans (by decide)
  clear ex1
  refine ab_istore_n (lv' := [some (.ref m), some (.int 0), some (.int 1), some (.int 0), none]) d_M_puts_3 rfl (by decide) rfl ?_
  refine ab_iload_n d_M_puts_4 rfl rfl ?_
  refine ab_if_lt (tgt := 72) d_M_puts_5 (by decide) (fun q2 => by exact absurd q2 (by decide)) (fun q2 => ?_)
  refine ab_iload_n d_M_puts_8 rfl rfl ?_
  refine ab_bipush (v := 8) d_M_puts_9 (by decide) ?_
  refine ab_iload_n d_M_puts_11 rfl rfl ?_
  refine ab_imul d_M_puts_12 ?_
  refine ab_topi (fun x3 ex3 => ?_)
  obtain rfl : x3 = 0 := ex3.trans (by decide)
  clear ex3
  refine ab_ishr d_M_puts_13 ?_
  refine ab_topi (fun x4 ex4 => ?_)
  obtain rfl : x4 = 0 := ex4.trans (by decide)
  clear ex4
  refine ab_sipush (v := 255) d_M_puts_14 (by decide) ?_
  refine ab_iand d_M_puts_17 ?_
  refine ab_topi (fun x5 ex5 => ?_)
  obtain rfl : x5 = 0 := ex5.trans (by decide)
  clear ex5
  refine ab_istore (lv' := [some (.ref m), some (.int 0), some (.int 1), some (.int 0), some (.int 0)]) d_M_puts_18 (by decide) rfl ?_
  refine ab_aload_n d_M_puts_20 rfl rfl rfl ?_
  refine ab_get (f := 24) d_M_puts_21 po rfl (by decide) (k10 17 rfl rfl) rfl ?_
  refine ab_if_eq (tgt := 44) d_M_puts_24 (by decide) (fun q6 => ?_) (fun q6 => by exact absurd (by decide) q6)
  refine ab_aload_n d_M_puts_44 rfl rfl rfl ?_
  refine ab_get (f := 21) d_M_puts_45 po rfl (by decide) (k10 14 rfl rfl) rfl ?_
  refine ab_aload_n d_M_puts_48 rfl rfl rfl ?_
  refine ab_get (f := 22) d_M_puts_49 po rfl (by decide) (k10 15 rfl rfl) rfl ?_
  refine ab_iload d_M_puts_52 rfl ?_
  refine ab_i2b d_M_puts_54 ?_
  refine ab_topi (fun x7 ex7 => ?_)
  obtain rfl : x7 = 0 := ex7.trans (by decide)
  clear ex7
  refine ab_bast d_M_puts_55 tB qa (vp_in_nI (by omega) (by decide)) ?_
  refine ab_gen (fun h8 e9 => ?_)
  have c10 : h8[m]? = some (.inr (12, [p0, p1, p2, .ref (m + 2), p4, p5, p6, p7, p8, .ref (m + 74), p10, p11, p12, p13, p14, p15, p16, p17, p18, p19, p20, .ref (m + 105), .int (nI k), p23, .int 0, p25, p26, p27, p28])) := ab_other e9 (by omega) po
  have c11 : h8[m+105]? = some (.inl (.byte, 58000, .inl (upd qf ((nI k)).toNatClampNeg (vp_nar .byte 0)))) := ab_self e9 qa
  have fr12 : ab_fr (fun j => j = m ∨ j = m+105) h h8 := ab_fr_set (ab_fr_rf _ _) e9 (by first | (show _ ∧ _; omega) | (show _ ∨ _; omega) | (show _ = _; omega) | (show _ ≤ _; omega))
  clear e9
  obtain ⟨y13, c14⟩ : ∃ f : Nat → Int32, h8[m+105]? = some (.inl (.byte, 58000, .inl f)) := ⟨_, c11⟩
  clear c11
  refine ab_aload_n d_M_puts_56 rfl rfl rfl ?_
  refine ab_dup d_M_puts_57 rfl ?_
  refine ab_get (f := 22) d_M_puts_58 c10 rfl (by decide) (k10 15 rfl rfl) rfl ?_
  refine ab_iconst (v := 1) d_M_puts_61 (by decide) ?_
  refine ab_iadd d_M_puts_62 ?_
  refine ab_topi (fun x15 ex15 => ?_)
  obtain rfl : x15 = nI (k + 1) := ex15.trans (nI_1 _)
  clear ex15
  refine ab_put (f := 22) d_M_puts_63 c10 rfl (by decide) (k10 15 rfl rfl) rfl rfl (fun _ => rfl) (fun _ => rfl) (Nat.le_of_ble_eq_true rfl) ?_
  show ab_V _ _ _ _ _ _ _ 66 [some (.ref m), some (.int 0), some (.int 1), some (.int 0), some (.int 0)] [] (h8.set m (.inr (12, [p0, p1, p2, .ref (m + 2), p4, p5, p6, p7, p8, .ref (m + 74), p10, p11, p12, p13, p14, p15, p16, p17, p18, p19, p20, .ref (m + 105), .int (nI (k + 1)), p23, .int 0, p25, p26, p27, p28])))
  refine ab_gen (fun h16 e17 => ?_)
  have c18 : h16[m]? = some (.inr (12, [p0, p1, p2, .ref (m + 2), p4, p5, p6, p7, p8, .ref (m + 74), p10, p11, p12, p13, p14, p15, p16, p17, p18, p19, p20, .ref (m + 105), .int (nI (k + 1)), p23, .int 0, p25, p26, p27, p28])) := ab_self e17 c10
  have c19 : h16[m+105]? = some (.inl (.byte, 58000, .inl y13)) := ab_other e17 (by omega) c14
  have fr20 : ab_fr (fun j => j = m ∨ j = m+105) h h16 := ab_fr_set fr12 e17 (by first | (show _ ∧ _; omega) | (show _ ∨ _; omega) | (show _ = _; omega) | (show _ ≤ _; omega))
  clear c10 c14 fr12 e17
  try clear h8
  refine ab_iinc (v := (-1)) (lv' := [some (.ref m), some (.int 0), some (.int 1), some (.int (-1)), some (.int 0)]) d_M_puts_66 rfl (by decide) (by decide) rfl ?_
  refine ab_goto (tgt := 4) d_M_puts_69 (by decide) ?_
  refine ab_iload_n d_M_puts_4 rfl rfl ?_
  refine ab_if_lt (tgt := 72) d_M_puts_5 (by decide) (fun q21 => ?_) (fun q21 => by exact absurd (by decide) q21)
  exact ab_vret d_M_puts_72 rfl (Nat.le_refl _) (Nat.le_refl _) (by exact ⟨rfl, _, c18, c19, fr20⟩)
set_option maxRecDepth 20000 in
set_option maxHeartbeats 2000000 in
theorem r_puts_o2 {h : List ab_E}  {p0 p1 p2 p4 p5 p6 p7 p8 p10 p11 p12 p13 p14 p15 p16 p17 p18 p19 p20 p23 p25 p26 p27 p28 : Value} {qf : Nat → Int32} {m : Nat} {k : Nat}  (po : h[m]? = some (.inr (12, [p0, p1, p2, .ref (m + 2), p4, p5, p6, p7, p8, .ref (m + 74), p10, p11, p12, p13, p14, p15, p16, p17, p18, p19, p20, .ref (m + 105), .int (nI k), p23, .int 0, p25, p26, p27, p28]))) (qa : h[m + 105]? = some (.inl (.byte, 58000, .inl qf))) (hk : k + 2 ≤ 58000) : ab_M y_M_puts { frames := 0, cells := 0, slots := 0, locals := 0 } [.ref m, .int 0, .int 2] h (ab_A none (fun h1 => ∃ f : Nat → Int32, h1[m]? = some (.inr (12, [p0, p1, p2, .ref (m + 2), p4, p5, p6, p7, p8, .ref (m + 74), p10, p11, p12, p13, p14, p15, p16, p17, p18, p19, p20, .ref (m + 105), .int (nI (k + 2)), p23, .int 0, p25, p26, p27, p28])) ∧ h1[m+105]? = some (.inl (.byte, 58000, .inl f)) ∧ ab_fr (fun j => j = m ∨ j = m+105) h h1)) := by
  refine ab_of2 (lv := [some (.ref m), some (.int 0), some (.int 2), none, none]) 2 rfl rfl (Nat.le_of_ble_eq_true rfl) ?_
  refine ab_iload_n d_M_puts_0 rfl rfl ?_
  refine ab_iconst (v := 1) d_M_puts_1 (by decide) ?_
  refine ab_isub d_M_puts_2 ?_
  refine ab_topi (fun x1 ex1 => ?_)
  obtain rfl : x1 = 1 := ex1.trans (by decide)
  clear ex1
  refine ab_istore_n (lv' := [some (.ref m), some (.int 0), some (.int 2), some (.int 1), none]) d_M_puts_3 rfl (by decide) rfl ?_
  refine ab_iload_n d_M_puts_4 rfl rfl ?_
  refine ab_if_lt (tgt := 72) d_M_puts_5 (by decide) (fun q2 => by exact absurd q2 (by decide)) (fun q2 => ?_)
  refine ab_iload_n d_M_puts_8 rfl rfl ?_
  refine ab_bipush (v := 8) d_M_puts_9 (by decide) ?_
  refine ab_iload_n d_M_puts_11 rfl rfl ?_
  refine ab_imul d_M_puts_12 ?_
  refine ab_topi (fun x3 ex3 => ?_)
  obtain rfl : x3 = 8 := ex3.trans (by decide)
  clear ex3
  refine ab_ishr d_M_puts_13 ?_
  refine ab_topi (fun x4 ex4 => ?_)
  obtain rfl : x4 = 0 := ex4.trans (by decide)
  clear ex4
  refine ab_sipush (v := 255) d_M_puts_14 (by decide) ?_
  refine ab_iand d_M_puts_17 ?_
  refine ab_topi (fun x5 ex5 => ?_)
  obtain rfl : x5 = 0 := ex5.trans (by decide)
  clear ex5
  refine ab_istore (lv' := [some (.ref m), some (.int 0), some (.int 2), some (.int 1), some (.int 0)]) d_M_puts_18 (by decide) rfl ?_
  refine ab_aload_n d_M_puts_20 rfl rfl rfl ?_
  refine ab_get (f := 24) d_M_puts_21 po rfl (by decide) (k10 17 rfl rfl) rfl ?_
  refine ab_if_eq (tgt := 44) d_M_puts_24 (by decide) (fun q6 => ?_) (fun q6 => by exact absurd (by decide) q6)
  refine ab_aload_n d_M_puts_44 rfl rfl rfl ?_
  refine ab_get (f := 21) d_M_puts_45 po rfl (by decide) (k10 14 rfl rfl) rfl ?_
  refine ab_aload_n d_M_puts_48 rfl rfl rfl ?_
  refine ab_get (f := 22) d_M_puts_49 po rfl (by decide) (k10 15 rfl rfl) rfl ?_
  refine ab_iload d_M_puts_52 rfl ?_
  refine ab_i2b d_M_puts_54 ?_
  refine ab_topi (fun x7 ex7 => ?_)
  obtain rfl : x7 = 0 := ex7.trans (by decide)
  clear ex7
  refine ab_bast d_M_puts_55 tB qa (vp_in_nI (by omega) (by decide)) ?_
  refine ab_gen (fun h8 e9 => ?_)
  have c10 : h8[m]? = some (.inr (12, [p0, p1, p2, .ref (m + 2), p4, p5, p6, p7, p8, .ref (m + 74), p10, p11, p12, p13, p14, p15, p16, p17, p18, p19, p20, .ref (m + 105), .int (nI k), p23, .int 0, p25, p26, p27, p28])) := ab_other e9 (by omega) po
  have c11 : h8[m+105]? = some (.inl (.byte, 58000, .inl (upd qf ((nI k)).toNatClampNeg (vp_nar .byte 0)))) := ab_self e9 qa
  have fr12 : ab_fr (fun j => j = m ∨ j = m+105) h h8 := ab_fr_set (ab_fr_rf _ _) e9 (by first | (show _ ∧ _; omega) | (show _ ∨ _; omega) | (show _ = _; omega) | (show _ ≤ _; omega))
  clear e9
  obtain ⟨y13, c14⟩ : ∃ f : Nat → Int32, h8[m+105]? = some (.inl (.byte, 58000, .inl f)) := ⟨_, c11⟩
  clear c11
  refine ab_aload_n d_M_puts_56 rfl rfl rfl ?_
  refine ab_dup d_M_puts_57 rfl ?_
  refine ab_get (f := 22) d_M_puts_58 c10 rfl (by decide) (k10 15 rfl rfl) rfl ?_
  refine ab_iconst (v := 1) d_M_puts_61 (by decide) ?_
  refine ab_iadd d_M_puts_62 ?_
  refine ab_topi (fun x15 ex15 => ?_)
  obtain rfl : x15 = nI (k + 1) := ex15.trans (nI_1 _)
  clear ex15
  refine ab_put (f := 22) d_M_puts_63 c10 rfl (by decide) (k10 15 rfl rfl) rfl rfl (fun _ => rfl) (fun _ => rfl) (Nat.le_of_ble_eq_true rfl) ?_
  show ab_V _ _ _ _ _ _ _ 66 [some (.ref m), some (.int 0), some (.int 2), some (.int 1), some (.int 0)] [] (h8.set m (.inr (12, [p0, p1, p2, .ref (m + 2), p4, p5, p6, p7, p8, .ref (m + 74), p10, p11, p12, p13, p14, p15, p16, p17, p18, p19, p20, .ref (m + 105), .int (nI (k + 1)), p23, .int 0, p25, p26, p27, p28])))
  refine ab_gen (fun h16 e17 => ?_)
  have c18 : h16[m]? = some (.inr (12, [p0, p1, p2, .ref (m + 2), p4, p5, p6, p7, p8, .ref (m + 74), p10, p11, p12, p13, p14, p15, p16, p17, p18, p19, p20, .ref (m + 105), .int (nI (k + 1)), p23, .int 0, p25, p26, p27, p28])) := ab_self e17 c10
  have c19 : h16[m+105]? = some (.inl (.byte, 58000, .inl y13)) := ab_other e17 (by omega) c14
  have fr20 : ab_fr (fun j => j = m ∨ j = m+105) h h16 := ab_fr_set fr12 e17 (by first | (show _ ∧ _; omega) | (show _ ∨ _; omega) | (show _ = _; omega) | (show _ ≤ _; omega))
  clear c10 c14 fr12 e17
  try clear h8
  refine ab_iinc (v := 0) (lv' := [some (.ref m), some (.int 0), some (.int 2), some (.int 0), some (.int 0)]) d_M_puts_66 rfl (by decide) (by decide) rfl ?_
  refine ab_goto (tgt := 4) d_M_puts_69 (by decide) ?_
  refine ab_iload_n d_M_puts_4 rfl rfl ?_
  refine ab_if_lt (tgt := 72) d_M_puts_5 (by decide) (fun q21 => by exact absurd q21 (by decide)) (fun q21 => ?_)
  refine ab_iload_n d_M_puts_8 rfl rfl ?_
  refine ab_bipush (v := 8) d_M_puts_9 (by decide) ?_
  refine ab_iload_n d_M_puts_11 rfl rfl ?_
  refine ab_imul d_M_puts_12 ?_
  refine ab_topi (fun x22 ex22 => ?_)
  obtain rfl : x22 = 0 := ex22.trans (by decide)
  clear ex22
  refine ab_ishr d_M_puts_13 ?_
  refine ab_topi (fun x23 ex23 => ?_)
  obtain rfl : x23 = 0 := ex23.trans (by decide)
  clear ex23
  refine ab_sipush (v := 255) d_M_puts_14 (by decide) ?_
  refine ab_iand d_M_puts_17 ?_
  refine ab_topi (fun x24 ex24 => ?_)
  obtain rfl : x24 = 0 := ex24.trans (by decide)
  clear ex24
  refine ab_istore (lv' := [some (.ref m), some (.int 0), some (.int 2), some (.int 0), some (.int 0)]) d_M_puts_18 (by decide) rfl ?_
  refine ab_aload_n d_M_puts_20 rfl rfl rfl ?_
  refine ab_get (f := 24) d_M_puts_21 c18 rfl (by decide) (k10 17 rfl rfl) rfl ?_
  refine ab_if_eq (tgt := 44) d_M_puts_24 (by decide) (fun q25 => ?_) (fun q25 => by exact absurd (by decide) q25)
  refine ab_aload_n d_M_puts_44 rfl rfl rfl ?_
  refine ab_get (f := 21) d_M_puts_45 c18 rfl (by decide) (k10 14 rfl rfl) rfl ?_
  refine ab_aload_n d_M_puts_48 rfl rfl rfl ?_
  refine ab_get (f := 22) d_M_puts_49 c18 rfl (by decide) (k10 15 rfl rfl) rfl ?_
  refine ab_iload d_M_puts_52 rfl ?_
  refine ab_i2b d_M_puts_54 ?_
  refine ab_topi (fun x26 ex26 => ?_)
  obtain rfl : x26 = 0 := ex26.trans (by decide)
  clear ex26
  refine ab_bast d_M_puts_55 tB c19 (vp_in_nI (by omega) (by decide)) ?_
  refine ab_gen (fun h27 e28 => ?_)
  have c29 : h27[m]? = some (.inr (12, [p0, p1, p2, .ref (m + 2), p4, p5, p6, p7, p8, .ref (m + 74), p10, p11, p12, p13, p14, p15, p16, p17, p18, p19, p20, .ref (m + 105), .int (nI (k + 1)), p23, .int 0, p25, p26, p27, p28])) := ab_other e28 (by omega) c18
  have c30 : h27[m+105]? = some (.inl (.byte, 58000, .inl (upd y13 ((nI (k + 1))).toNatClampNeg (vp_nar .byte 0)))) := ab_self e28 c19
  have fr31 : ab_fr (fun j => j = m ∨ j = m+105) h h27 := ab_fr_set fr20 e28 (by first | (show _ ∧ _; omega) | (show _ ∨ _; omega) | (show _ = _; omega) | (show _ ≤ _; omega))
  clear c18 c19 fr20 e28
  try clear h16
  obtain ⟨y32, c33⟩ : ∃ f : Nat → Int32, h27[m+105]? = some (.inl (.byte, 58000, .inl f)) := ⟨_, c30⟩
  clear c30
  refine ab_aload_n d_M_puts_56 rfl rfl rfl ?_
  refine ab_dup d_M_puts_57 rfl ?_
  refine ab_get (f := 22) d_M_puts_58 c29 rfl (by decide) (k10 15 rfl rfl) rfl ?_
  refine ab_iconst (v := 1) d_M_puts_61 (by decide) ?_
  refine ab_iadd d_M_puts_62 ?_
  refine ab_topi (fun x34 ex34 => ?_)
  obtain rfl : x34 = nI (k + 2) := ex34.trans (nI_1 _)
  clear ex34
  refine ab_put (f := 22) d_M_puts_63 c29 rfl (by decide) (k10 15 rfl rfl) rfl rfl (fun _ => rfl) (fun _ => rfl) (Nat.le_of_ble_eq_true rfl) ?_
  show ab_V _ _ _ _ _ _ _ 66 [some (.ref m), some (.int 0), some (.int 2), some (.int 0), some (.int 0)] [] (h27.set m (.inr (12, [p0, p1, p2, .ref (m + 2), p4, p5, p6, p7, p8, .ref (m + 74), p10, p11, p12, p13, p14, p15, p16, p17, p18, p19, p20, .ref (m + 105), .int (nI (k + 2)), p23, .int 0, p25, p26, p27, p28])))
  refine ab_gen (fun h35 e36 => ?_)
  have c37 : h35[m]? = some (.inr (12, [p0, p1, p2, .ref (m + 2), p4, p5, p6, p7, p8, .ref (m + 74), p10, p11, p12, p13, p14, p15, p16, p17, p18, p19, p20, .ref (m + 105), .int (nI (k + 2)), p23, .int 0, p25, p26, p27, p28])) := ab_self e36 c29
  have c38 : h35[m+105]? = some (.inl (.byte, 58000, .inl y32)) := ab_other e36 (by omega) c33
  have fr39 : ab_fr (fun j => j = m ∨ j = m+105) h h35 := ab_fr_set fr31 e36 (by first | (show _ ∧ _; omega) | (show _ ∨ _; omega) | (show _ = _; omega) | (show _ ≤ _; omega))
  clear c29 c33 fr31 e36
  try clear h27
  refine ab_iinc (v := (-1)) (lv' := [some (.ref m), some (.int 0), some (.int 2), some (.int (-1)), some (.int 0)]) d_M_puts_66 rfl (by decide) (by decide) rfl ?_
  refine ab_goto (tgt := 4) d_M_puts_69 (by decide) ?_
  refine ab_iload_n d_M_puts_4 rfl rfl ?_
  refine ab_if_lt (tgt := 72) d_M_puts_5 (by decide) (fun q40 => ?_) (fun q40 => by exact absurd (by decide) q40)
  exact ab_vret d_M_puts_72 rfl (Nat.le_refl _) (Nat.le_refl _) (by exact ⟨rfl, _, c37, c38, fr39⟩)
set_option maxRecDepth 20000 in
set_option maxHeartbeats 2000000 in
theorem r_puts_o4 {h : List ab_E}  {p0 p1 p2 p4 p5 p6 p7 p8 p10 p11 p12 p13 p14 p15 p16 p17 p18 p19 p20 p23 p25 p26 p27 p28 : Value} {qf : Nat → Int32} {m : Nat} {k : Nat}  (po : h[m]? = some (.inr (12, [p0, p1, p2, .ref (m + 2), p4, p5, p6, p7, p8, .ref (m + 74), p10, p11, p12, p13, p14, p15, p16, p17, p18, p19, p20, .ref (m + 105), .int (nI k), p23, .int 0, p25, p26, p27, p28]))) (qa : h[m + 105]? = some (.inl (.byte, 58000, .inl qf))) (hk : k + 4 ≤ 58000) : ab_M y_M_puts { frames := 0, cells := 0, slots := 0, locals := 0 } [.ref m, .int 0, .int 4] h (ab_A none (fun h1 => ∃ f : Nat → Int32, h1[m]? = some (.inr (12, [p0, p1, p2, .ref (m + 2), p4, p5, p6, p7, p8, .ref (m + 74), p10, p11, p12, p13, p14, p15, p16, p17, p18, p19, p20, .ref (m + 105), .int (nI (k + 4)), p23, .int 0, p25, p26, p27, p28])) ∧ h1[m+105]? = some (.inl (.byte, 58000, .inl f)) ∧ ab_fr (fun j => j = m ∨ j = m+105) h h1)) := by
  refine ab_of2 (lv := [some (.ref m), some (.int 0), some (.int 4), none, none]) 2 rfl rfl (Nat.le_of_ble_eq_true rfl) ?_
  refine ab_iload_n d_M_puts_0 rfl rfl ?_
  refine ab_iconst (v := 1) d_M_puts_1 (by decide) ?_
  refine ab_isub d_M_puts_2 ?_
  refine ab_topi (fun x1 ex1 => ?_)
  obtain rfl : x1 = 3 := ex1.trans (by decide)
  clear ex1
  refine ab_istore_n (lv' := [some (.ref m), some (.int 0), some (.int 4), some (.int 3), none]) d_M_puts_3 rfl (by decide) rfl ?_
  refine ab_iload_n d_M_puts_4 rfl rfl ?_
  refine ab_if_lt (tgt := 72) d_M_puts_5 (by decide) (fun q2 => by exact absurd q2 (by decide)) (fun q2 => ?_)
  refine ab_iload_n d_M_puts_8 rfl rfl ?_
  refine ab_bipush (v := 8) d_M_puts_9 (by decide) ?_
  refine ab_iload_n d_M_puts_11 rfl rfl ?_
  refine ab_imul d_M_puts_12 ?_
  refine ab_topi (fun x3 ex3 => ?_)
  obtain rfl : x3 = 24 := ex3.trans (by decide)
  clear ex3
  refine ab_ishr d_M_puts_13 ?_
  refine ab_topi (fun x4 ex4 => ?_)
  obtain rfl : x4 = 0 := ex4.trans (by decide)
  clear ex4
  refine ab_sipush (v := 255) d_M_puts_14 (by decide) ?_
  refine ab_iand d_M_puts_17 ?_
  refine ab_topi (fun x5 ex5 => ?_)
  obtain rfl : x5 = 0 := ex5.trans (by decide)
  clear ex5
  refine ab_istore (lv' := [some (.ref m), some (.int 0), some (.int 4), some (.int 3), some (.int 0)]) d_M_puts_18 (by decide) rfl ?_
  refine ab_aload_n d_M_puts_20 rfl rfl rfl ?_
  refine ab_get (f := 24) d_M_puts_21 po rfl (by decide) (k10 17 rfl rfl) rfl ?_
  refine ab_if_eq (tgt := 44) d_M_puts_24 (by decide) (fun q6 => ?_) (fun q6 => by exact absurd (by decide) q6)
  refine ab_aload_n d_M_puts_44 rfl rfl rfl ?_
  refine ab_get (f := 21) d_M_puts_45 po rfl (by decide) (k10 14 rfl rfl) rfl ?_
  refine ab_aload_n d_M_puts_48 rfl rfl rfl ?_
  refine ab_get (f := 22) d_M_puts_49 po rfl (by decide) (k10 15 rfl rfl) rfl ?_
  refine ab_iload d_M_puts_52 rfl ?_
  refine ab_i2b d_M_puts_54 ?_
  refine ab_topi (fun x7 ex7 => ?_)
  obtain rfl : x7 = 0 := ex7.trans (by decide)
  clear ex7
  refine ab_bast d_M_puts_55 tB qa (vp_in_nI (by omega) (by decide)) ?_
  refine ab_gen (fun h8 e9 => ?_)
  have c10 : h8[m]? = some (.inr (12, [p0, p1, p2, .ref (m + 2), p4, p5, p6, p7, p8, .ref (m + 74), p10, p11, p12, p13, p14, p15, p16, p17, p18, p19, p20, .ref (m + 105), .int (nI k), p23, .int 0, p25, p26, p27, p28])) := ab_other e9 (by omega) po
  have c11 : h8[m+105]? = some (.inl (.byte, 58000, .inl (upd qf ((nI k)).toNatClampNeg (vp_nar .byte 0)))) := ab_self e9 qa
  have fr12 : ab_fr (fun j => j = m ∨ j = m+105) h h8 := ab_fr_set (ab_fr_rf _ _) e9 (by first | (show _ ∧ _; omega) | (show _ ∨ _; omega) | (show _ = _; omega) | (show _ ≤ _; omega))
  clear e9
  obtain ⟨y13, c14⟩ : ∃ f : Nat → Int32, h8[m+105]? = some (.inl (.byte, 58000, .inl f)) := ⟨_, c11⟩
  clear c11
  refine ab_aload_n d_M_puts_56 rfl rfl rfl ?_
  refine ab_dup d_M_puts_57 rfl ?_
  refine ab_get (f := 22) d_M_puts_58 c10 rfl (by decide) (k10 15 rfl rfl) rfl ?_
  refine ab_iconst (v := 1) d_M_puts_61 (by decide) ?_
  refine ab_iadd d_M_puts_62 ?_
  refine ab_topi (fun x15 ex15 => ?_)
  obtain rfl : x15 = nI (k + 1) := ex15.trans (nI_1 _)
  clear ex15
  refine ab_put (f := 22) d_M_puts_63 c10 rfl (by decide) (k10 15 rfl rfl) rfl rfl (fun _ => rfl) (fun _ => rfl) (Nat.le_of_ble_eq_true rfl) ?_
  show ab_V _ _ _ _ _ _ _ 66 [some (.ref m), some (.int 0), some (.int 4), some (.int 3), some (.int 0)] [] (h8.set m (.inr (12, [p0, p1, p2, .ref (m + 2), p4, p5, p6, p7, p8, .ref (m + 74), p10, p11, p12, p13, p14, p15, p16, p17, p18, p19, p20, .ref (m + 105), .int (nI (k + 1)), p23, .int 0, p25, p26, p27, p28])))
  refine ab_gen (fun h16 e17 => ?_)
  have c18 : h16[m]? = some (.inr (12, [p0, p1, p2, .ref (m + 2), p4, p5, p6, p7, p8, .ref (m + 74), p10, p11, p12, p13, p14, p15, p16, p17, p18, p19, p20, .ref (m + 105), .int (nI (k + 1)), p23, .int 0, p25, p26, p27, p28])) := ab_self e17 c10
  have c19 : h16[m+105]? = some (.inl (.byte, 58000, .inl y13)) := ab_other e17 (by omega) c14
  have fr20 : ab_fr (fun j => j = m ∨ j = m+105) h h16 := ab_fr_set fr12 e17 (by first | (show _ ∧ _; omega) | (show _ ∨ _; omega) | (show _ = _; omega) | (show _ ≤ _; omega))
  clear c10 c14 fr12 e17
  try clear h8
  refine ab_iinc (v := 2) (lv' := [some (.ref m), some (.int 0), some (.int 4), some (.int 2), some (.int 0)]) d_M_puts_66 rfl (by decide) (by decide) rfl ?_
  refine ab_goto (tgt := 4) d_M_puts_69 (by decide) ?_
  refine ab_iload_n d_M_puts_4 rfl rfl ?_
  refine ab_if_lt (tgt := 72) d_M_puts_5 (by decide) (fun q21 => by exact absurd q21 (by decide)) (fun q21 => ?_)
  refine ab_iload_n d_M_puts_8 rfl rfl ?_
  refine ab_bipush (v := 8) d_M_puts_9 (by decide) ?_
  refine ab_iload_n d_M_puts_11 rfl rfl ?_
  refine ab_imul d_M_puts_12 ?_
  refine ab_topi (fun x22 ex22 => ?_)
  obtain rfl : x22 = 16 := ex22.trans (by decide)
  clear ex22
  refine ab_ishr d_M_puts_13 ?_
  refine ab_topi (fun x23 ex23 => ?_)
  obtain rfl : x23 = 0 := ex23.trans (by decide)
  clear ex23
  refine ab_sipush (v := 255) d_M_puts_14 (by decide) ?_
  refine ab_iand d_M_puts_17 ?_
  refine ab_topi (fun x24 ex24 => ?_)
  obtain rfl : x24 = 0 := ex24.trans (by decide)
  clear ex24
  refine ab_istore (lv' := [some (.ref m), some (.int 0), some (.int 4), some (.int 2), some (.int 0)]) d_M_puts_18 (by decide) rfl ?_
  refine ab_aload_n d_M_puts_20 rfl rfl rfl ?_
  refine ab_get (f := 24) d_M_puts_21 c18 rfl (by decide) (k10 17 rfl rfl) rfl ?_
  refine ab_if_eq (tgt := 44) d_M_puts_24 (by decide) (fun q25 => ?_) (fun q25 => by exact absurd (by decide) q25)
  refine ab_aload_n d_M_puts_44 rfl rfl rfl ?_
  refine ab_get (f := 21) d_M_puts_45 c18 rfl (by decide) (k10 14 rfl rfl) rfl ?_
  refine ab_aload_n d_M_puts_48 rfl rfl rfl ?_
  refine ab_get (f := 22) d_M_puts_49 c18 rfl (by decide) (k10 15 rfl rfl) rfl ?_
  refine ab_iload d_M_puts_52 rfl ?_
  refine ab_i2b d_M_puts_54 ?_
  refine ab_topi (fun x26 ex26 => ?_)
  obtain rfl : x26 = 0 := ex26.trans (by decide)
  clear ex26
  refine ab_bast d_M_puts_55 tB c19 (vp_in_nI (by omega) (by decide)) ?_
  refine ab_gen (fun h27 e28 => ?_)
  have c29 : h27[m]? = some (.inr (12, [p0, p1, p2, .ref (m + 2), p4, p5, p6, p7, p8, .ref (m + 74), p10, p11, p12, p13, p14, p15, p16, p17, p18, p19, p20, .ref (m + 105), .int (nI (k + 1)), p23, .int 0, p25, p26, p27, p28])) := ab_other e28 (by omega) c18
  have c30 : h27[m+105]? = some (.inl (.byte, 58000, .inl (upd y13 ((nI (k + 1))).toNatClampNeg (vp_nar .byte 0)))) := ab_self e28 c19
  have fr31 : ab_fr (fun j => j = m ∨ j = m+105) h h27 := ab_fr_set fr20 e28 (by first | (show _ ∧ _; omega) | (show _ ∨ _; omega) | (show _ = _; omega) | (show _ ≤ _; omega))
  clear c18 c19 fr20 e28
  try clear h16
  obtain ⟨y32, c33⟩ : ∃ f : Nat → Int32, h27[m+105]? = some (.inl (.byte, 58000, .inl f)) := ⟨_, c30⟩
  clear c30
  refine ab_aload_n d_M_puts_56 rfl rfl rfl ?_
  refine ab_dup d_M_puts_57 rfl ?_
  refine ab_get (f := 22) d_M_puts_58 c29 rfl (by decide) (k10 15 rfl rfl) rfl ?_
  refine ab_iconst (v := 1) d_M_puts_61 (by decide) ?_
  refine ab_iadd d_M_puts_62 ?_
  refine ab_topi (fun x34 ex34 => ?_)
  obtain rfl : x34 = nI (k + 2) := ex34.trans (nI_1 _)
  clear ex34
  refine ab_put (f := 22) d_M_puts_63 c29 rfl (by decide) (k10 15 rfl rfl) rfl rfl (fun _ => rfl) (fun _ => rfl) (Nat.le_of_ble_eq_true rfl) ?_
  show ab_V _ _ _ _ _ _ _ 66 [some (.ref m), some (.int 0), some (.int 4), some (.int 2), some (.int 0)] [] (h27.set m (.inr (12, [p0, p1, p2, .ref (m + 2), p4, p5, p6, p7, p8, .ref (m + 74), p10, p11, p12, p13, p14, p15, p16, p17, p18, p19, p20, .ref (m + 105), .int (nI (k + 2)), p23, .int 0, p25, p26, p27, p28])))
  refine ab_gen (fun h35 e36 => ?_)
  have c37 : h35[m]? = some (.inr (12, [p0, p1, p2, .ref (m + 2), p4, p5, p6, p7, p8, .ref (m + 74), p10, p11, p12, p13, p14, p15, p16, p17, p18, p19, p20, .ref (m + 105), .int (nI (k + 2)), p23, .int 0, p25, p26, p27, p28])) := ab_self e36 c29
  have c38 : h35[m+105]? = some (.inl (.byte, 58000, .inl y32)) := ab_other e36 (by omega) c33
  have fr39 : ab_fr (fun j => j = m ∨ j = m+105) h h35 := ab_fr_set fr31 e36 (by first | (show _ ∧ _; omega) | (show _ ∨ _; omega) | (show _ = _; omega) | (show _ ≤ _; omega))
  clear c29 c33 fr31 e36
  try clear h27
  refine ab_iinc (v := 1) (lv' := [some (.ref m), some (.int 0), some (.int 4), some (.int 1), some (.int 0)]) d_M_puts_66 rfl (by decide) (by decide) rfl ?_
  refine ab_goto (tgt := 4) d_M_puts_69 (by decide) ?_
  refine ab_iload_n d_M_puts_4 rfl rfl ?_
  refine ab_if_lt (tgt := 72) d_M_puts_5 (by decide) (fun q40 => by exact absurd q40 (by decide)) (fun q40 => ?_)
  refine ab_iload_n d_M_puts_8 rfl rfl ?_
  refine ab_bipush (v := 8) d_M_puts_9 (by decide) ?_
  refine ab_iload_n d_M_puts_11 rfl rfl ?_
  refine ab_imul d_M_puts_12 ?_
  refine ab_topi (fun x41 ex41 => ?_)
  obtain rfl : x41 = 8 := ex41.trans (by decide)
  clear ex41
  refine ab_ishr d_M_puts_13 ?_
  refine ab_topi (fun x42 ex42 => ?_)
  obtain rfl : x42 = 0 := ex42.trans (by decide)
  clear ex42
  refine ab_sipush (v := 255) d_M_puts_14 (by decide) ?_
  refine ab_iand d_M_puts_17 ?_
  refine ab_topi (fun x43 ex43 => ?_)
  obtain rfl : x43 = 0 := ex43.trans (by decide)
  clear ex43
  refine ab_istore (lv' := [some (.ref m), some (.int 0), some (.int 4), some (.int 1), some (.int 0)]) d_M_puts_18 (by decide) rfl ?_
  refine ab_aload_n d_M_puts_20 rfl rfl rfl ?_
  refine ab_get (f := 24) d_M_puts_21 c37 rfl (by decide) (k10 17 rfl rfl) rfl ?_
  refine ab_if_eq (tgt := 44) d_M_puts_24 (by decide) (fun q44 => ?_) (fun q44 => by exact absurd (by decide) q44)
  refine ab_aload_n d_M_puts_44 rfl rfl rfl ?_
  refine ab_get (f := 21) d_M_puts_45 c37 rfl (by decide) (k10 14 rfl rfl) rfl ?_
  refine ab_aload_n d_M_puts_48 rfl rfl rfl ?_
  refine ab_get (f := 22) d_M_puts_49 c37 rfl (by decide) (k10 15 rfl rfl) rfl ?_
  refine ab_iload d_M_puts_52 rfl ?_
  refine ab_i2b d_M_puts_54 ?_
  refine ab_topi (fun x45 ex45 => ?_)
  obtain rfl : x45 = 0 := ex45.trans (by decide)
  clear ex45
  refine ab_bast d_M_puts_55 tB c38 (vp_in_nI (by omega) (by decide)) ?_
  refine ab_gen (fun h46 e47 => ?_)
  have c48 : h46[m]? = some (.inr (12, [p0, p1, p2, .ref (m + 2), p4, p5, p6, p7, p8, .ref (m + 74), p10, p11, p12, p13, p14, p15, p16, p17, p18, p19, p20, .ref (m + 105), .int (nI (k + 2)), p23, .int 0, p25, p26, p27, p28])) := ab_other e47 (by omega) c37
  have c49 : h46[m+105]? = some (.inl (.byte, 58000, .inl (upd y32 ((nI (k + 2))).toNatClampNeg (vp_nar .byte 0)))) := ab_self e47 c38
  have fr50 : ab_fr (fun j => j = m ∨ j = m+105) h h46 := ab_fr_set fr39 e47 (by first | (show _ ∧ _; omega) | (show _ ∨ _; omega) | (show _ = _; omega) | (show _ ≤ _; omega))
  clear c37 c38 fr39 e47
  try clear h35
  obtain ⟨y51, c52⟩ : ∃ f : Nat → Int32, h46[m+105]? = some (.inl (.byte, 58000, .inl f)) := ⟨_, c49⟩
  clear c49
  refine ab_aload_n d_M_puts_56 rfl rfl rfl ?_
  refine ab_dup d_M_puts_57 rfl ?_
  refine ab_get (f := 22) d_M_puts_58 c48 rfl (by decide) (k10 15 rfl rfl) rfl ?_
  refine ab_iconst (v := 1) d_M_puts_61 (by decide) ?_
  refine ab_iadd d_M_puts_62 ?_
  refine ab_topi (fun x53 ex53 => ?_)
  obtain rfl : x53 = nI (k + 3) := ex53.trans (nI_1 _)
  clear ex53
  refine ab_put (f := 22) d_M_puts_63 c48 rfl (by decide) (k10 15 rfl rfl) rfl rfl (fun _ => rfl) (fun _ => rfl) (Nat.le_of_ble_eq_true rfl) ?_
  show ab_V _ _ _ _ _ _ _ 66 [some (.ref m), some (.int 0), some (.int 4), some (.int 1), some (.int 0)] [] (h46.set m (.inr (12, [p0, p1, p2, .ref (m + 2), p4, p5, p6, p7, p8, .ref (m + 74), p10, p11, p12, p13, p14, p15, p16, p17, p18, p19, p20, .ref (m + 105), .int (nI (k + 3)), p23, .int 0, p25, p26, p27, p28])))
  refine ab_gen (fun h54 e55 => ?_)
  have c56 : h54[m]? = some (.inr (12, [p0, p1, p2, .ref (m + 2), p4, p5, p6, p7, p8, .ref (m + 74), p10, p11, p12, p13, p14, p15, p16, p17, p18, p19, p20, .ref (m + 105), .int (nI (k + 3)), p23, .int 0, p25, p26, p27, p28])) := ab_self e55 c48
  have c57 : h54[m+105]? = some (.inl (.byte, 58000, .inl y51)) := ab_other e55 (by omega) c52
  have fr58 : ab_fr (fun j => j = m ∨ j = m+105) h h54 := ab_fr_set fr50 e55 (by first | (show _ ∧ _; omega) | (show _ ∨ _; omega) | (show _ = _; omega) | (show _ ≤ _; omega))
  clear c48 c52 fr50 e55
  try clear h46
  refine ab_iinc (v := 0) (lv' := [some (.ref m), some (.int 0), some (.int 4), some (.int 0), some (.int 0)]) d_M_puts_66 rfl (by decide) (by decide) rfl ?_
  refine ab_goto (tgt := 4) d_M_puts_69 (by decide) ?_
  refine ab_iload_n d_M_puts_4 rfl rfl ?_
  refine ab_if_lt (tgt := 72) d_M_puts_5 (by decide) (fun q59 => by exact absurd q59 (by decide)) (fun q59 => ?_)
  refine ab_iload_n d_M_puts_8 rfl rfl ?_
  refine ab_bipush (v := 8) d_M_puts_9 (by decide) ?_
  refine ab_iload_n d_M_puts_11 rfl rfl ?_
  refine ab_imul d_M_puts_12 ?_
  refine ab_topi (fun x60 ex60 => ?_)
  obtain rfl : x60 = 0 := ex60.trans (by decide)
  clear ex60
  refine ab_ishr d_M_puts_13 ?_
  refine ab_topi (fun x61 ex61 => ?_)
  obtain rfl : x61 = 0 := ex61.trans (by decide)
  clear ex61
  refine ab_sipush (v := 255) d_M_puts_14 (by decide) ?_
  refine ab_iand d_M_puts_17 ?_
  refine ab_topi (fun x62 ex62 => ?_)
  obtain rfl : x62 = 0 := ex62.trans (by decide)
  clear ex62
  refine ab_istore (lv' := [some (.ref m), some (.int 0), some (.int 4), some (.int 0), some (.int 0)]) d_M_puts_18 (by decide) rfl ?_
  refine ab_aload_n d_M_puts_20 rfl rfl rfl ?_
  refine ab_get (f := 24) d_M_puts_21 c56 rfl (by decide) (k10 17 rfl rfl) rfl ?_
  refine ab_if_eq (tgt := 44) d_M_puts_24 (by decide) (fun q63 => ?_) (fun q63 => by exact absurd (by decide) q63)
  refine ab_aload_n d_M_puts_44 rfl rfl rfl ?_
  refine ab_get (f := 21) d_M_puts_45 c56 rfl (by decide) (k10 14 rfl rfl) rfl ?_
  refine ab_aload_n d_M_puts_48 rfl rfl rfl ?_
  refine ab_get (f := 22) d_M_puts_49 c56 rfl (by decide) (k10 15 rfl rfl) rfl ?_
  refine ab_iload d_M_puts_52 rfl ?_
  refine ab_i2b d_M_puts_54 ?_
  refine ab_topi (fun x64 ex64 => ?_)
  obtain rfl : x64 = 0 := ex64.trans (by decide)
  clear ex64
  refine ab_bast d_M_puts_55 tB c57 (vp_in_nI (by omega) (by decide)) ?_
  refine ab_gen (fun h65 e66 => ?_)
  have c67 : h65[m]? = some (.inr (12, [p0, p1, p2, .ref (m + 2), p4, p5, p6, p7, p8, .ref (m + 74), p10, p11, p12, p13, p14, p15, p16, p17, p18, p19, p20, .ref (m + 105), .int (nI (k + 3)), p23, .int 0, p25, p26, p27, p28])) := ab_other e66 (by omega) c56
  have c68 : h65[m+105]? = some (.inl (.byte, 58000, .inl (upd y51 ((nI (k + 3))).toNatClampNeg (vp_nar .byte 0)))) := ab_self e66 c57
  have fr69 : ab_fr (fun j => j = m ∨ j = m+105) h h65 := ab_fr_set fr58 e66 (by first | (show _ ∧ _; omega) | (show _ ∨ _; omega) | (show _ = _; omega) | (show _ ≤ _; omega))
  clear c56 c57 fr58 e66
  try clear h54
  obtain ⟨y70, c71⟩ : ∃ f : Nat → Int32, h65[m+105]? = some (.inl (.byte, 58000, .inl f)) := ⟨_, c68⟩
  clear c68
  refine ab_aload_n d_M_puts_56 rfl rfl rfl ?_
  refine ab_dup d_M_puts_57 rfl ?_
  refine ab_get (f := 22) d_M_puts_58 c67 rfl (by decide) (k10 15 rfl rfl) rfl ?_
  refine ab_iconst (v := 1) d_M_puts_61 (by decide) ?_
  refine ab_iadd d_M_puts_62 ?_
  refine ab_topi (fun x72 ex72 => ?_)
  obtain rfl : x72 = nI (k + 4) := ex72.trans (nI_1 _)
  clear ex72
  refine ab_put (f := 22) d_M_puts_63 c67 rfl (by decide) (k10 15 rfl rfl) rfl rfl (fun _ => rfl) (fun _ => rfl) (Nat.le_of_ble_eq_true rfl) ?_
  show ab_V _ _ _ _ _ _ _ 66 [some (.ref m), some (.int 0), some (.int 4), some (.int 0), some (.int 0)] [] (h65.set m (.inr (12, [p0, p1, p2, .ref (m + 2), p4, p5, p6, p7, p8, .ref (m + 74), p10, p11, p12, p13, p14, p15, p16, p17, p18, p19, p20, .ref (m + 105), .int (nI (k + 4)), p23, .int 0, p25, p26, p27, p28])))
  refine ab_gen (fun h73 e74 => ?_)
  have c75 : h73[m]? = some (.inr (12, [p0, p1, p2, .ref (m + 2), p4, p5, p6, p7, p8, .ref (m + 74), p10, p11, p12, p13, p14, p15, p16, p17, p18, p19, p20, .ref (m + 105), .int (nI (k + 4)), p23, .int 0, p25, p26, p27, p28])) := ab_self e74 c67
  have c76 : h73[m+105]? = some (.inl (.byte, 58000, .inl y70)) := ab_other e74 (by omega) c71
  have fr77 : ab_fr (fun j => j = m ∨ j = m+105) h h73 := ab_fr_set fr69 e74 (by first | (show _ ∧ _; omega) | (show _ ∨ _; omega) | (show _ = _; omega) | (show _ ≤ _; omega))
  clear c67 c71 fr69 e74
  try clear h65
  refine ab_iinc (v := (-1)) (lv' := [some (.ref m), some (.int 0), some (.int 4), some (.int (-1)), some (.int 0)]) d_M_puts_66 rfl (by decide) (by decide) rfl ?_
  refine ab_goto (tgt := 4) d_M_puts_69 (by decide) ?_
  refine ab_iload_n d_M_puts_4 rfl rfl ?_
  refine ab_if_lt (tgt := 72) d_M_puts_5 (by decide) (fun q78 => ?_) (fun q78 => by exact absurd (by decide) q78)
  exact ab_vret d_M_puts_72 rfl (Nat.le_refl _) (Nat.le_refl _) (by exact ⟨rfl, _, c75, c76, fr77⟩)
set_option maxRecDepth 20000 in
set_option maxHeartbeats 2000000 in
theorem l_pw_sum {Po : Outcome → List ab_E → Prop} {mc ms cells slots : Nat} {p0 p1 p2 p4 p5 p6 p7 p8 p10 p11 p12 p13 p14 p15 p16 p17 p18 p19 p20 p22 p25 p26 p27 p28 : Value} {n0 n1 n2 n3 n6 n7 n8 n9 n10 n11 n12 n13 n14 n15 n16 n17 : Value} {m : Nat} {x : Int32}  (hcl : cells ≤ ({ frames := 1, cells := 0, slots := 0, locals := 40 } : Room).cells) (hsl : slots ≤ ({ frames := 1, cells := 0, slots := 0, locals := 40 } : Room).slots) : ∀ (n i : Nat) (h : List ab_E), i + n = 256 → h[m]? = some (.inr (12, [p0, p1, p2, .ref (m + 2), p4, p5, p6, p7, p8, .ref (m + 74), p10, p11, p12, p13, p14, p15, p16, p17, p18, p19, p20, .ref (m + 105), p22, .int (hz (5 * i) x), .int 1, p25, p26, p27, p28])) → h[m + 74]? = some (.inr (13, [n0, n1, n2, n3, .ref (m + 74 + 1), .ref (m + 74 + 2), n6, n7, n8, n9, n10, n11, n12, n13, n14, n15, n16, n17])) → h[m + 74 + 1]? = some (.inl (.int, 256, .inl (fun _ => 0))) → h[m + 74 + 2]? = some (.inl (.boolean, 256, .inl (fun _ => 0))) → (∀ (h1 : List ab_E), h1[m]? = some (.inr (12, [p0, p1, p2, .ref (m + 2), p4, p5, p6, p7, p8, .ref (m + 74), p10, p11, p12, p13, p14, p15, p16, p17, p18, p19, p20, .ref (m + 105), p22, .int (hz (5 * 256) x), .int 1, p25, p26, p27, p28])) → h1[m + 74]? = some (.inr (13, [n0, n1, n2, n3, .ref (m + 74 + 1), .ref (m + 74 + 2), n6, n7, n8, n9, n10, n11, n12, n13, n14, n15, n16, n17])) → h1[m + 74 + 1]? = some (.inl (.int, 256, .inl (fun _ => 0))) → h1[m + 74 + 2]? = some (.inl (.boolean, 256, .inl (fun _ => 0))) → ab_fr (fun j => j = m) h h1 → ab_V y_M_putsWorld { frames := 1, cells := 0, slots := 0, locals := 40 } Po mc ms cells slots 414 [some (.ref m), some (.int (nI 256)), none, none] [] h1) →
    ab_V y_M_putsWorld { frames := 1, cells := 0, slots := 0, locals := 40 } Po mc ms cells slots 250 [some (.ref m), some (.int (nI i)), none, none] [] h := by
  intro n
  induction n with
  | zero =>
    intro i h  hi po no xa za hk
    refine ab_iload_n d_M_putsWorld_250 rfl rfl ?_
    refine ab_sipush (v := 256) d_M_putsWorld_251 (by decide) ?_
    refine ab_icmp_ge (tgt := 414) d_M_putsWorld_254 (by decide) (fun q1 => ?_) (fun q1 => ?_)
    · have hiN : i = 256 := (by omega)
      subst hiN
      exact hk h  po no xa za (ab_fr_rf _ _)
    · exact absurd (nI_le (a := 256) (b := i) (by omega) (by omega)) q1
  | succ n ih =>
    intro i h  hi po no xa za hk
    refine ab_iload_n d_M_putsWorld_250 rfl rfl ?_
    refine ab_sipush (v := 256) d_M_putsWorld_251 (by decide) ?_
    refine ab_icmp_ge (tgt := 414) d_M_putsWorld_254 (by decide) (fun q1 => ?_) (fun q1 => ?_)
    · exact absurd ((nI_leI (a := 256) (b := i) (by omega) (by omega)).mp q1) (by omega)
    · refine ab_aload_n d_M_putsWorld_257 rfl rfl rfl ?_
      refine ab_aload_n d_M_putsWorld_258 rfl rfl rfl ?_
      refine ab_get (f := 9) d_M_putsWorld_259 po rfl (by decide) (k10 2 rfl rfl) rfl ?_
      refine ab_getN (f := 4) d_M_putsWorld_262 no rfl (by decide) (k9 99 rfl rfl) rfl ?_
      refine ab_iload_n d_M_putsWorld_265 rfl rfl ?_
      refine ab_iald d_M_putsWorld_266 tI xa (vp_in_nI (by omega) (by decide)) ?_
      refine ab_topi (fun x2 ex2 => ?_)
      obtain rfl : x2 = 0 := ex2.trans rfl
      clear ex2
      refine ab_iconst (v := 4) d_M_putsWorld_267 (by decide) ?_
      refine ab_callV_v (As := [.int 0, .int 4]) (rest := []) d_M_putsWorld_268 (r_puts_s4 po) (ab_mkC s_M_puts (Nat.le_of_ble_eq_true rfl) (Nat.le_of_ble_eq_true rfl) (by first | exact hcl | (show _ ≤ _; omega)) (by first | exact hsl | (show _ ≤ _; omega))) (k13 32 rfl rfl) i_M_puts v_M_puts po rfl rfl (Nat.le_of_ble_eq_true rfl) (fun h3 q4 => ?_)
      obtain ⟨c6, f5⟩ := q4
      have c7 : h3[m+74]? = some (.inr (13, [n0, n1, n2, n3, .ref (m + 74 + 1), .ref (m + 74 + 2), n6, n7, n8, n9, n10, n11, n12, n13, n14, n15, n16, n17])) := ab_fr_at f5 no (by omega)
      have c8 : h3[m+74+1]? = some (.inl (.int, 256, .inl (fun _ => 0))) := ab_fr_at f5 xa (by omega)
      have c9 : h3[m+74+2]? = some (.inl (.boolean, 256, .inl (fun _ => 0))) := ab_fr_at f5 za (by omega)
      have fr10 : ab_fr (fun j => j = m) h h3 := ab_fr_tr (ab_fr_rf _ _) f5
      clear f5
      replace c6 : h3[m]? = some (.inr (12, [p0, p1, p2, .ref (m + 2), p4, p5, p6, p7, p8, .ref (m + 74), p10, p11, p12, p13, p14, p15, p16, p17, p18, p19, p20, .ref (m + 105), p22, .int (hz 4 (hz (5 * i) x)), .int 1, p25, p26, p27, p28])) := c6
      refine ab_aload_n d_M_putsWorld_271 rfl rfl rfl ?_
      refine ab_aload_n d_M_putsWorld_272 rfl rfl rfl ?_
      refine ab_get (f := 9) d_M_putsWorld_273 c6 rfl (by decide) (k10 2 rfl rfl) rfl ?_
      refine ab_getN (f := 5) d_M_putsWorld_276 c7 rfl (by decide) (k9 102 rfl rfl) rfl ?_
      refine ab_iload_n d_M_putsWorld_279 rfl rfl ?_
      refine ab_zald d_M_putsWorld_280 tZ c9 (vp_in_nI (by omega) (by decide)) ?_
      refine ab_topi (fun x11 ex11 => ?_)
      obtain rfl : x11 = 0 := ex11.trans rfl
      clear ex11
      refine ab_if_eq (tgt := 288) d_M_putsWorld_281 (by decide) (fun q12 => ?_) (fun q12 => by exact absurd (by decide) q12)
      refine ab_iconst (v := 0) d_M_putsWorld_288 (by decide) ?_
      refine ab_iconst (v := 1) d_M_putsWorld_289 (by decide) ?_
      refine ab_callV_v (As := [.int 0, .int 1]) (rest := []) d_M_putsWorld_290 (r_puts_s1 c6) (ab_mkC s_M_puts (Nat.le_of_ble_eq_true rfl) (Nat.le_of_ble_eq_true rfl) (by first | exact hcl | (show _ ≤ _; omega)) (by first | exact hsl | (show _ ≤ _; omega))) (k13 32 rfl rfl) i_M_puts v_M_puts c6 rfl rfl (Nat.le_of_ble_eq_true rfl) (fun h13 q14 => ?_)
      obtain ⟨c16, f15⟩ := q14
      have c17 : h13[m+74]? = some (.inr (13, [n0, n1, n2, n3, .ref (m + 74 + 1), .ref (m + 74 + 2), n6, n7, n8, n9, n10, n11, n12, n13, n14, n15, n16, n17])) := ab_fr_at f15 c7 (by omega)
      have c18 : h13[m+74+1]? = some (.inl (.int, 256, .inl (fun _ => 0))) := ab_fr_at f15 c8 (by omega)
      have c19 : h13[m+74+2]? = some (.inl (.boolean, 256, .inl (fun _ => 0))) := ab_fr_at f15 c9 (by omega)
      have fr20 : ab_fr (fun j => j = m) h h13 := ab_fr_tr fr10 f15
      clear c7 c8 c9 c6 f15 fr10
      try clear h3
      replace c16 : h13[m]? = some (.inr (12, [p0, p1, p2, .ref (m + 2), p4, p5, p6, p7, p8, .ref (m + 74), p10, p11, p12, p13, p14, p15, p16, p17, p18, p19, p20, .ref (m + 105), p22, .int (hz 1 (hz 4 (hz (5 * i) x))), .int 1, p25, p26, p27, p28])) := c16
      refine ab_aload_n d_M_putsWorld_293 rfl rfl rfl ?_
      refine ab_get (f := 9) d_M_putsWorld_294 c16 rfl (by decide) (k10 2 rfl rfl) rfl ?_
      refine ab_getN (f := 5) d_M_putsWorld_297 c17 rfl (by decide) (k9 102 rfl rfl) rfl ?_
      refine ab_iload_n d_M_putsWorld_300 rfl rfl ?_
      refine ab_zald d_M_putsWorld_301 tZ c19 (vp_in_nI (by omega) (by decide)) ?_
      refine ab_topi (fun x21 ex21 => ?_)
      obtain rfl : x21 = 0 := ex21.trans rfl
      clear ex21
      refine ab_if_ne (tgt := 308) d_M_putsWorld_302 (by decide) (fun q22 => by exact absurd q22 (by decide)) (fun q22 => ?_)
      refine ab_goto (tgt := 408) d_M_putsWorld_305 (by decide) ?_
      obtain ⟨x23, ex23⟩ : ∃ q : Int32, q = nI i + 1 := ⟨_, rfl⟩
      refine ab_iinc (v := x23) (lv' := [some (.ref m), some (.int x23), none, none]) d_M_putsWorld_408 rfl (by rw [ex23]; rfl) (by decide) rfl ?_
      refine ab_goto (tgt := 250) d_M_putsWorld_411 (by decide) ?_
      subst ex23
      rw [nI_1]
      refine ab_widen (cells' := cells) (slots' := slots) (by first | exact Nat.le_refl _ | (show _ ≤ _; omega)) (by first | exact Nat.le_refl _ | (show _ ≤ _; omega)) ?_
      exact ih (i + 1) h13  (by omega) (by have z := c16; rw [hz_add, hz_add] at z; exact z) c17 c18 c19 (fun h1  q0 q1 q2 q3 qf => hk h1  q0 q1 q2 q3 (ab_fr_tr fr20 qf))
set_option maxRecDepth 20000 in
set_option maxHeartbeats 2000000 in
theorem l_pw_out {Po : Outcome → List ab_E → Prop} {mc ms cells slots : Nat} {p0 p1 p2 p4 p5 p6 p7 p8 p10 p11 p12 p13 p14 p15 p16 p17 p18 p19 p20 p23 p25 p26 p27 p28 : Value} {n0 n1 n2 n3 n6 n7 n8 n9 n10 n11 n12 n13 n14 n15 n16 n17 : Value} {m : Nat}  (hcl : cells ≤ ({ frames := 1, cells := 0, slots := 0, locals := 40 } : Room).cells) (hsl : slots ≤ ({ frames := 1, cells := 0, slots := 0, locals := 40 } : Room).slots) : ∀ (n i : Nat) (h : List ab_E) (qf : Nat → Int32), i + n = 256 → h[m]? = some (.inr (12, [p0, p1, p2, .ref (m + 2), p4, p5, p6, p7, p8, .ref (m + 74), p10, p11, p12, p13, p14, p15, p16, p17, p18, p19, p20, .ref (m + 105), .int (nI (20 + 5 * i)), p23, .int 0, p25, p26, p27, p28])) → h[m + 105]? = some (.inl (.byte, 58000, .inl qf)) → h[m + 74]? = some (.inr (13, [n0, n1, n2, n3, .ref (m + 74 + 1), .ref (m + 74 + 2), n6, n7, n8, n9, n10, n11, n12, n13, n14, n15, n16, n17])) → h[m + 74 + 1]? = some (.inl (.int, 256, .inl (fun _ => 0))) → h[m + 74 + 2]? = some (.inl (.boolean, 256, .inl (fun _ => 0))) → (∀ (h1 : List ab_E) (qf1 : Nat → Int32), h1[m]? = some (.inr (12, [p0, p1, p2, .ref (m + 2), p4, p5, p6, p7, p8, .ref (m + 74), p10, p11, p12, p13, p14, p15, p16, p17, p18, p19, p20, .ref (m + 105), .int (nI (20 + 5 * 256)), p23, .int 0, p25, p26, p27, p28])) → h1[m + 105]? = some (.inl (.byte, 58000, .inl qf1)) → h1[m + 74]? = some (.inr (13, [n0, n1, n2, n3, .ref (m + 74 + 1), .ref (m + 74 + 2), n6, n7, n8, n9, n10, n11, n12, n13, n14, n15, n16, n17])) → h1[m + 74 + 1]? = some (.inl (.int, 256, .inl (fun _ => 0))) → h1[m + 74 + 2]? = some (.inl (.boolean, 256, .inl (fun _ => 0))) → ab_fr (fun j => j = m ∨ j = m+105) h h1 → ab_V y_M_putsWorld { frames := 1, cells := 0, slots := 0, locals := 40 } Po mc ms cells slots 414 [some (.ref m), some (.int (nI 256)), none, none] [] h1) →
    ab_V y_M_putsWorld { frames := 1, cells := 0, slots := 0, locals := 40 } Po mc ms cells slots 250 [some (.ref m), some (.int (nI i)), none, none] [] h := by
  intro n
  induction n with
  | zero =>
    intro i h qf hi po qa no xa za hk
    refine ab_iload_n d_M_putsWorld_250 rfl rfl ?_
    refine ab_sipush (v := 256) d_M_putsWorld_251 (by decide) ?_
    refine ab_icmp_ge (tgt := 414) d_M_putsWorld_254 (by decide) (fun q1 => ?_) (fun q1 => ?_)
    · have hiN : i = 256 := (by omega)
      subst hiN
      exact hk h qf po qa no xa za (ab_fr_rf _ _)
    · exact absurd (nI_le (a := 256) (b := i) (by omega) (by omega)) q1
  | succ n ih =>
    intro i h qf hi po qa no xa za hk
    refine ab_iload_n d_M_putsWorld_250 rfl rfl ?_
    refine ab_sipush (v := 256) d_M_putsWorld_251 (by decide) ?_
    refine ab_icmp_ge (tgt := 414) d_M_putsWorld_254 (by decide) (fun q1 => ?_) (fun q1 => ?_)
    · exact absurd ((nI_leI (a := 256) (b := i) (by omega) (by omega)).mp q1) (by omega)
    · refine ab_aload_n d_M_putsWorld_257 rfl rfl rfl ?_
      refine ab_aload_n d_M_putsWorld_258 rfl rfl rfl ?_
      refine ab_get (f := 9) d_M_putsWorld_259 po rfl (by decide) (k10 2 rfl rfl) rfl ?_
      refine ab_getN (f := 4) d_M_putsWorld_262 no rfl (by decide) (k9 99 rfl rfl) rfl ?_
      refine ab_iload_n d_M_putsWorld_265 rfl rfl ?_
      refine ab_iald d_M_putsWorld_266 tI xa (vp_in_nI (by omega) (by decide)) ?_
      refine ab_topi (fun x2 ex2 => ?_)
      obtain rfl : x2 = 0 := ex2.trans rfl
      clear ex2
      refine ab_iconst (v := 4) d_M_putsWorld_267 (by decide) ?_
      refine ab_callV_v (As := [.int 0, .int 4]) (rest := []) d_M_putsWorld_268 (r_puts_o4 (k := 20 + 5 * i) po qa (by omega)) (ab_mkC s_M_puts (Nat.le_of_ble_eq_true rfl) (Nat.le_of_ble_eq_true rfl) (by first | exact hcl | (show _ ≤ _; omega)) (by first | exact hsl | (show _ ≤ _; omega))) (k13 32 rfl rfl) i_M_puts v_M_puts po rfl rfl (Nat.le_of_ble_eq_true rfl) (fun h3 q4 => ?_)
      obtain ⟨y8, c6, c7, f5⟩ := q4
      have c9 : h3[m+74]? = some (.inr (13, [n0, n1, n2, n3, .ref (m + 74 + 1), .ref (m + 74 + 2), n6, n7, n8, n9, n10, n11, n12, n13, n14, n15, n16, n17])) := ab_fr_at f5 no (by omega)
      have c10 : h3[m+74+1]? = some (.inl (.int, 256, .inl (fun _ => 0))) := ab_fr_at f5 xa (by omega)
      have c11 : h3[m+74+2]? = some (.inl (.boolean, 256, .inl (fun _ => 0))) := ab_fr_at f5 za (by omega)
      have fr12 : ab_fr (fun j => j = m ∨ j = m+105) h h3 := ab_fr_tr (ab_fr_rf _ _) f5
      clear f5
      replace c6 : h3[m]? = some (.inr (12, [p0, p1, p2, .ref (m + 2), p4, p5, p6, p7, p8, .ref (m + 74), p10, p11, p12, p13, p14, p15, p16, p17, p18, p19, p20, .ref (m + 105), .int (nI (20 + 5 * i + 4)), p23, .int 0, p25, p26, p27, p28])) := c6
      replace c7 : h3[m+105]? = some (.inl (.byte, 58000, .inl y8)) := c7
      refine ab_aload_n d_M_putsWorld_271 rfl rfl rfl ?_
      refine ab_aload_n d_M_putsWorld_272 rfl rfl rfl ?_
      refine ab_get (f := 9) d_M_putsWorld_273 c6 rfl (by decide) (k10 2 rfl rfl) rfl ?_
      refine ab_getN (f := 5) d_M_putsWorld_276 c9 rfl (by decide) (k9 102 rfl rfl) rfl ?_
      refine ab_iload_n d_M_putsWorld_279 rfl rfl ?_
      refine ab_zald d_M_putsWorld_280 tZ c11 (vp_in_nI (by omega) (by decide)) ?_
      refine ab_topi (fun x13 ex13 => ?_)
      obtain rfl : x13 = 0 := ex13.trans rfl
      clear ex13
      refine ab_if_eq (tgt := 288) d_M_putsWorld_281 (by decide) (fun q14 => ?_) (fun q14 => by exact absurd (by decide) q14)
      refine ab_iconst (v := 0) d_M_putsWorld_288 (by decide) ?_
      refine ab_iconst (v := 1) d_M_putsWorld_289 (by decide) ?_
      refine ab_callV_v (As := [.int 0, .int 1]) (rest := []) d_M_putsWorld_290 (r_puts_o1 (k := 20 + 5 * i + 4) c6 c7 (by omega)) (ab_mkC s_M_puts (Nat.le_of_ble_eq_true rfl) (Nat.le_of_ble_eq_true rfl) (by first | exact hcl | (show _ ≤ _; omega)) (by first | exact hsl | (show _ ≤ _; omega))) (k13 32 rfl rfl) i_M_puts v_M_puts c6 rfl rfl (Nat.le_of_ble_eq_true rfl) (fun h15 q16 => ?_)
      obtain ⟨y20, c18, c19, f17⟩ := q16
      have c21 : h15[m+74]? = some (.inr (13, [n0, n1, n2, n3, .ref (m + 74 + 1), .ref (m + 74 + 2), n6, n7, n8, n9, n10, n11, n12, n13, n14, n15, n16, n17])) := ab_fr_at f17 c9 (by omega)
      have c22 : h15[m+74+1]? = some (.inl (.int, 256, .inl (fun _ => 0))) := ab_fr_at f17 c10 (by omega)
      have c23 : h15[m+74+2]? = some (.inl (.boolean, 256, .inl (fun _ => 0))) := ab_fr_at f17 c11 (by omega)
      have fr24 : ab_fr (fun j => j = m ∨ j = m+105) h h15 := ab_fr_tr fr12 f17
      clear c9 c10 c11 c6 c7 f17 fr12
      try clear h3
      replace c18 : h15[m]? = some (.inr (12, [p0, p1, p2, .ref (m + 2), p4, p5, p6, p7, p8, .ref (m + 74), p10, p11, p12, p13, p14, p15, p16, p17, p18, p19, p20, .ref (m + 105), .int (nI (20 + 5 * i + 4 + 1)), p23, .int 0, p25, p26, p27, p28])) := c18
      replace c19 : h15[m+105]? = some (.inl (.byte, 58000, .inl y20)) := c19
      refine ab_aload_n d_M_putsWorld_293 rfl rfl rfl ?_
      refine ab_get (f := 9) d_M_putsWorld_294 c18 rfl (by decide) (k10 2 rfl rfl) rfl ?_
      refine ab_getN (f := 5) d_M_putsWorld_297 c21 rfl (by decide) (k9 102 rfl rfl) rfl ?_
      refine ab_iload_n d_M_putsWorld_300 rfl rfl ?_
      refine ab_zald d_M_putsWorld_301 tZ c23 (vp_in_nI (by omega) (by decide)) ?_
      refine ab_topi (fun x25 ex25 => ?_)
      obtain rfl : x25 = 0 := ex25.trans rfl
      clear ex25
      refine ab_if_ne (tgt := 308) d_M_putsWorld_302 (by decide) (fun q26 => by exact absurd q26 (by decide)) (fun q26 => ?_)
      refine ab_goto (tgt := 408) d_M_putsWorld_305 (by decide) ?_
      obtain ⟨x27, ex27⟩ : ∃ q : Int32, q = nI i + 1 := ⟨_, rfl⟩
      refine ab_iinc (v := x27) (lv' := [some (.ref m), some (.int x27), none, none]) d_M_putsWorld_408 rfl (by rw [ex27]; rfl) (by decide) rfl ?_
      refine ab_goto (tgt := 250) d_M_putsWorld_411 (by decide) ?_
      subst ex27
      rw [nI_1]
      refine ab_widen (cells' := cells) (slots' := slots) (by first | exact Nat.le_refl _ | (show _ ≤ _; omega)) (by first | exact Nat.le_refl _ | (show _ ≤ _; omega)) ?_
      exact ih (i + 1) h15 y20 (by omega) (by have z := c18; rw [show 20 + 5 * i + 4 + 1 = 20 + 5 * (i + 1) by omega] at z; exact z) c19 c21 c22 c23 (fun h1 qf1 q0 q1 q2 q3 q4 qf => hk h1 qf1 q0 q1 q2 q3 q4 (ab_fr_tr fr24 qf))
