set_option maxRecDepth 20000 in
set_option maxHeartbeats 2000000 in
theorem r_wb_s87 {h : List ab_E}  {p1 p2 p5 : Value} {b : Nat} {x : Int32}   (po : h[b]? = some (.inr (11, [.ref (b + 1), p1, p2, .int 0, .int x, p5])))  : ab_M y_Store_writeByte { frames := 0, cells := 0, slots := 0, locals := 0 } [.ref b, .int 87] h (ab_A none (fun h1 => h1[b]? = some (.inr (11, [.ref (b + 1), p1, p2, .int 0, .int (31 * x + 87), p5])) ∧ ab_fr (fun j => j = b) h h1)) := by
  refine ab_of2 (lv := [some (.ref b), some (.int 87)]) 0 rfl rfl (Nat.le_of_ble_eq_true rfl) ?_
  refine ab_aload_n d_Store_writeByte_0 rfl rfl rfl ?_
  refine ab_bipush (v := 31) d_Store_writeByte_1 (by decide) ?_
  refine ab_aload_n d_Store_writeByte_3 rfl rfl rfl ?_
  refine ab_get (f := 4) d_Store_writeByte_4 po rfl (by decide) (k2 193 rfl rfl) rfl ?_
  refine ab_imul d_Store_writeByte_7 ?_
  refine ab_iload_n d_Store_writeByte_8 rfl rfl ?_
  refine ab_sipush (v := 255) d_Store_writeByte_9 (by decide) ?_
  refine ab_iand d_Store_writeByte_12 ?_
  refine ab_topi (fun x1 ex1 => ?_)
  obtain rfl : x1 = 87 := ex1.trans (by decide)
  clear ex1
  refine ab_iadd d_Store_writeByte_13 ?_
  refine ab_put (f := 4) d_Store_writeByte_14 po rfl (by decide) (k2 193 rfl rfl) rfl rfl (fun _ => rfl) (fun _ => rfl) (Nat.le_of_ble_eq_true rfl) ?_
  show ab_V _ _ _ _ _ _ _ 17 [some (.ref b), some (.int 87)] [] (h.set b (.inr (11, [.ref (b + 1), p1, p2, .int 0, .int ((31 * x) + 87), p5])))
  refine ab_gen (fun h2 e3 => ?_)
  have c4 : h2[b]? = some (.inr (11, [.ref (b + 1), p1, p2, .int 0, .int ((31 * x) + 87), p5])) := ab_self e3 po
  have fr5 : ab_fr (fun j => j = b) h h2 := ab_fr_set (ab_fr_rf _ _) e3 (by first | (show _ ∧ _; omega) | (show _ ∨ _; omega) | (show _ = _; omega) | (show _ ≤ _; omega))
  clear e3
  refine ab_aload_n d_Store_writeByte_17 rfl rfl rfl ?_
  refine ab_get (f := 3) d_Store_writeByte_18 c4 rfl (by decide) (k2 192 rfl rfl) rfl ?_
  refine ab_if_eq (tgt := 54) d_Store_writeByte_21 (by decide) (fun q6 => ?_) (fun q6 => by exact absurd (by decide) q6)
  exact ab_vret d_Store_writeByte_54 rfl (Nat.le_refl _) (Nat.le_refl _) (by exact ⟨rfl, c4, fr5⟩)
set_option maxRecDepth 20000 in
set_option maxHeartbeats 2000000 in
theorem r_wb_s69 {h : List ab_E}  {p1 p2 p5 : Value} {b : Nat} {x : Int32}   (po : h[b]? = some (.inr (11, [.ref (b + 1), p1, p2, .int 0, .int x, p5])))  : ab_M y_Store_writeByte { frames := 0, cells := 0, slots := 0, locals := 0 } [.ref b, .int 69] h (ab_A none (fun h1 => h1[b]? = some (.inr (11, [.ref (b + 1), p1, p2, .int 0, .int (31 * x + 69), p5])) ∧ ab_fr (fun j => j = b) h h1)) := by
  refine ab_of2 (lv := [some (.ref b), some (.int 69)]) 0 rfl rfl (Nat.le_of_ble_eq_true rfl) ?_
  refine ab_aload_n d_Store_writeByte_0 rfl rfl rfl ?_
  refine ab_bipush (v := 31) d_Store_writeByte_1 (by decide) ?_
  refine ab_aload_n d_Store_writeByte_3 rfl rfl rfl ?_
  refine ab_get (f := 4) d_Store_writeByte_4 po rfl (by decide) (k2 193 rfl rfl) rfl ?_
  refine ab_imul d_Store_writeByte_7 ?_
  refine ab_iload_n d_Store_writeByte_8 rfl rfl ?_
  refine ab_sipush (v := 255) d_Store_writeByte_9 (by decide) ?_
  refine ab_iand d_Store_writeByte_12 ?_
  refine ab_topi (fun x1 ex1 => ?_)
  obtain rfl : x1 = 69 := ex1.trans (by decide)
  clear ex1
  refine ab_iadd d_Store_writeByte_13 ?_
  refine ab_put (f := 4) d_Store_writeByte_14 po rfl (by decide) (k2 193 rfl rfl) rfl rfl (fun _ => rfl) (fun _ => rfl) (Nat.le_of_ble_eq_true rfl) ?_
  show ab_V _ _ _ _ _ _ _ 17 [some (.ref b), some (.int 69)] [] (h.set b (.inr (11, [.ref (b + 1), p1, p2, .int 0, .int ((31 * x) + 69), p5])))
  refine ab_gen (fun h2 e3 => ?_)
  have c4 : h2[b]? = some (.inr (11, [.ref (b + 1), p1, p2, .int 0, .int ((31 * x) + 69), p5])) := ab_self e3 po
  have fr5 : ab_fr (fun j => j = b) h h2 := ab_fr_set (ab_fr_rf _ _) e3 (by first | (show _ ∧ _; omega) | (show _ ∨ _; omega) | (show _ = _; omega) | (show _ ≤ _; omega))
  clear e3
  refine ab_aload_n d_Store_writeByte_17 rfl rfl rfl ?_
  refine ab_get (f := 3) d_Store_writeByte_18 c4 rfl (by decide) (k2 192 rfl rfl) rfl ?_
  refine ab_if_eq (tgt := 54) d_Store_writeByte_21 (by decide) (fun q6 => ?_) (fun q6 => by exact absurd (by decide) q6)
  exact ab_vret d_Store_writeByte_54 rfl (Nat.le_refl _) (Nat.le_refl _) (by exact ⟨rfl, c4, fr5⟩)
set_option maxRecDepth 20000 in
set_option maxHeartbeats 2000000 in
theorem r_wb_s0 {h : List ab_E}  {p1 p2 p5 : Value} {b : Nat} {x : Int32}   (po : h[b]? = some (.inr (11, [.ref (b + 1), p1, p2, .int 0, .int x, p5])))  : ab_M y_Store_writeByte { frames := 0, cells := 0, slots := 0, locals := 0 } [.ref b, .int 0] h (ab_A none (fun h1 => h1[b]? = some (.inr (11, [.ref (b + 1), p1, p2, .int 0, .int (hz 1 x), p5])) ∧ ab_fr (fun j => j = b) h h1)) := by
  refine ab_of2 (lv := [some (.ref b), some (.int 0)]) 0 rfl rfl (Nat.le_of_ble_eq_true rfl) ?_
  refine ab_aload_n d_Store_writeByte_0 rfl rfl rfl ?_
  refine ab_bipush (v := 31) d_Store_writeByte_1 (by decide) ?_
  refine ab_aload_n d_Store_writeByte_3 rfl rfl rfl ?_
  refine ab_get (f := 4) d_Store_writeByte_4 po rfl (by decide) (k2 193 rfl rfl) rfl ?_
  refine ab_imul d_Store_writeByte_7 ?_
  refine ab_iload_n d_Store_writeByte_8 rfl rfl ?_
  refine ab_sipush (v := 255) d_Store_writeByte_9 (by decide) ?_
  refine ab_iand d_Store_writeByte_12 ?_
  refine ab_topi (fun x1 ex1 => ?_)
  obtain rfl : x1 = 0 := ex1.trans (by decide)
  clear ex1
  refine ab_iadd d_Store_writeByte_13 ?_
  refine ab_put (f := 4) d_Store_writeByte_14 po rfl (by decide) (k2 193 rfl rfl) rfl rfl (fun _ => rfl) (fun _ => rfl) (Nat.le_of_ble_eq_true rfl) ?_
  show ab_V _ _ _ _ _ _ _ 17 [some (.ref b), some (.int 0)] [] (h.set b (.inr (11, [.ref (b + 1), p1, p2, .int 0, .int ((31 * x) + 0), p5])))
  refine ab_gen (fun h2 e3 => ?_)
  have c4 : h2[b]? = some (.inr (11, [.ref (b + 1), p1, p2, .int 0, .int ((31 * x) + 0), p5])) := ab_self e3 po
  have fr5 : ab_fr (fun j => j = b) h h2 := ab_fr_set (ab_fr_rf _ _) e3 (by first | (show _ ∧ _; omega) | (show _ ∨ _; omega) | (show _ = _; omega) | (show _ ≤ _; omega))
  clear e3
  refine ab_aload_n d_Store_writeByte_17 rfl rfl rfl ?_
  refine ab_get (f := 3) d_Store_writeByte_18 c4 rfl (by decide) (k2 192 rfl rfl) rfl ?_
  refine ab_if_eq (tgt := 54) d_Store_writeByte_21 (by decide) (fun q6 => ?_) (fun q6 => by exact absurd (by decide) q6)
  exact ab_vret d_Store_writeByte_54 rfl (Nat.le_refl _) (Nat.le_refl _) (by exact ⟨rfl, c4, fr5⟩)
set_option maxRecDepth 20000 in
set_option maxHeartbeats 2000000 in
theorem r_wb_k87 {h : List ab_E}  {p2 p5 : Value} {qf : Nat → Int32} {b k : Nat} {x : Int32}   (po : h[b]? = some (.inr (11, [.ref (b + 1), .int (nI k), p2, .int 1, .int x, p5]))) (qa : h[b + 1]? = some (.inl (.byte, 60000, .inl qf))) (hk : k + 1 ≤ 60000)  : ab_M y_Store_writeByte { frames := 0, cells := 0, slots := 0, locals := 0 } [.ref b, .int 87] h (ab_A none (fun h1 => ∃ (y : Int32) (f : Nat → Int32), h1[b]? = some (.inr (11, [.ref (b + 1), .int (nI (k + 1)), p2, .int 1, .int y, p5])) ∧ h1[b + 1]? = some (.inl (.byte, 60000, .inl f)) ∧ ab_fr (fun j => j = b ∨ j = b + 1) h h1)) := by
  refine ab_of2 (lv := [some (.ref b), some (.int 87)]) 0 rfl rfl (Nat.le_of_ble_eq_true rfl) ?_
  refine ab_aload_n d_Store_writeByte_0 rfl rfl rfl ?_
  refine ab_bipush (v := 31) d_Store_writeByte_1 (by decide) ?_
  refine ab_aload_n d_Store_writeByte_3 rfl rfl rfl ?_
  refine ab_get (f := 4) d_Store_writeByte_4 po rfl (by decide) (k2 193 rfl rfl) rfl ?_
  refine ab_imul d_Store_writeByte_7 ?_
  refine ab_iload_n d_Store_writeByte_8 rfl rfl ?_
  refine ab_sipush (v := 255) d_Store_writeByte_9 (by decide) ?_
  refine ab_iand d_Store_writeByte_12 ?_
  refine ab_topi (fun x1 ex1 => ?_)
  obtain rfl : x1 = 87 := ex1.trans (by decide)
  clear ex1
  refine ab_iadd d_Store_writeByte_13 ?_
  refine ab_put (f := 4) d_Store_writeByte_14 po rfl (by decide) (k2 193 rfl rfl) rfl rfl (fun _ => rfl) (fun _ => rfl) (Nat.le_of_ble_eq_true rfl) ?_
  show ab_V _ _ _ _ _ _ _ 17 [some (.ref b), some (.int 87)] [] (h.set b (.inr (11, [.ref (b + 1), .int (nI k), p2, .int 1, .int ((31 * x) + 87), p5])))
  refine ab_gen (fun h2 e3 => ?_)
  have c4 : h2[b]? = some (.inr (11, [.ref (b + 1), .int (nI k), p2, .int 1, .int ((31 * x) + 87), p5])) := ab_self e3 po
  have c5 : h2[b+1]? = some (.inl (.byte, 60000, .inl qf)) := ab_other e3 (by omega) qa
  have fr6 : ab_fr (fun j => j = b ∨ j = b + 1) h h2 := ab_fr_set (ab_fr_rf _ _) e3 (by first | (show _ ∧ _; omega) | (show _ ∨ _; omega) | (show _ = _; omega) | (show _ ≤ _; omega))
  clear e3
  refine ab_aload_n d_Store_writeByte_17 rfl rfl rfl ?_
  refine ab_get (f := 3) d_Store_writeByte_18 c4 rfl (by decide) (k2 192 rfl rfl) rfl ?_
  refine ab_if_eq (tgt := 54) d_Store_writeByte_21 (by decide) (fun q7 => by exact absurd q7 (by decide)) (fun q7 => ?_)
  refine ab_aload_n d_Store_writeByte_24 rfl rfl rfl ?_
  refine ab_get (f := 1) d_Store_writeByte_25 c4 rfl (by decide) (k2 188 rfl rfl) rfl ?_
  refine ab_ldc d_Store_writeByte_28 (k2 185 rfl rfl) ?_
  refine ab_icmp_ge (tgt := 54) d_Store_writeByte_30 (by decide) (fun q8 => ?_) (fun q8 => ?_)
  · exact absurd ((nI_leI (a := 60000) (by omega) (by omega)).mp q8) (by omega)
  · refine ab_aload_n d_Store_writeByte_33 rfl rfl rfl ?_
    refine ab_get (f := 0) d_Store_writeByte_34 c4 rfl (by decide) (k2 186 rfl rfl) rfl ?_
    refine ab_aload_n d_Store_writeByte_37 rfl rfl rfl ?_
    refine ab_get (f := 1) d_Store_writeByte_38 c4 rfl (by decide) (k2 188 rfl rfl) rfl ?_
    refine ab_iload_n d_Store_writeByte_41 rfl rfl ?_
    refine ab_i2b d_Store_writeByte_42 ?_
    refine ab_topi (fun x9 ex9 => ?_)
    obtain rfl : x9 = 87 := ex9.trans (by decide)
    clear ex9
    refine ab_bast d_Store_writeByte_43 tB c5 (vp_in_nI (by omega) (by decide)) ?_
    refine ab_gen (fun h10 e11 => ?_)
    have c12 : h10[b]? = some (.inr (11, [.ref (b + 1), .int (nI k), p2, .int 1, .int ((31 * x) + 87), p5])) := ab_other e11 (by omega) c4
    have c13 : h10[b+1]? = some (.inl (.byte, 60000, .inl (upd qf ((nI k)).toNatClampNeg (vp_nar .byte 87)))) := ab_self e11 c5
    have fr14 : ab_fr (fun j => j = b ∨ j = b + 1) h h10 := ab_fr_set fr6 e11 (by first | (show _ ∧ _; omega) | (show _ ∨ _; omega) | (show _ = _; omega) | (show _ ≤ _; omega))
    clear c4 c5 fr6 e11
    try clear h2
    obtain ⟨y15, c16⟩ : ∃ f : Nat → Int32, h10[b+1]? = some (.inl (.byte, 60000, .inl f)) := ⟨_, c13⟩
    clear c13
    refine ab_aload_n d_Store_writeByte_44 rfl rfl rfl ?_
    refine ab_dup d_Store_writeByte_45 rfl ?_
    refine ab_get (f := 1) d_Store_writeByte_46 c12 rfl (by decide) (k2 188 rfl rfl) rfl ?_
    refine ab_iconst (v := 1) d_Store_writeByte_49 (by decide) ?_
    refine ab_iadd d_Store_writeByte_50 ?_
    refine ab_topi (fun x17 ex17 => ?_)
    obtain rfl : x17 = nI (k + 1) := ex17.trans (nI_1 _)
    clear ex17
    refine ab_put (f := 1) d_Store_writeByte_51 c12 rfl (by decide) (k2 188 rfl rfl) rfl rfl (fun _ => rfl) (fun _ => rfl) (Nat.le_of_ble_eq_true rfl) ?_
    show ab_V _ _ _ _ _ _ _ 54 [some (.ref b), some (.int 87)] [] (h10.set b (.inr (11, [.ref (b + 1), .int (nI (k + 1)), p2, .int 1, .int ((31 * x) + 87), p5])))
    refine ab_gen (fun h18 e19 => ?_)
    have c20 : h18[b]? = some (.inr (11, [.ref (b + 1), .int (nI (k + 1)), p2, .int 1, .int ((31 * x) + 87), p5])) := ab_self e19 c12
    have c21 : h18[b+1]? = some (.inl (.byte, 60000, .inl y15)) := ab_other e19 (by omega) c16
    have fr22 : ab_fr (fun j => j = b ∨ j = b + 1) h h18 := ab_fr_set fr14 e19 (by first | (show _ ∧ _; omega) | (show _ ∨ _; omega) | (show _ = _; omega) | (show _ ≤ _; omega))
    clear c12 c16 fr14 e19
    try clear h10
    exact ab_vret d_Store_writeByte_54 rfl (Nat.le_refl _) (Nat.le_refl _) (by exact ⟨rfl, _, _, c20, c21, fr22⟩)
set_option maxRecDepth 20000 in
set_option maxHeartbeats 2000000 in
theorem r_wb_k69 {h : List ab_E}  {p2 p5 : Value} {qf : Nat → Int32} {b k : Nat} {x : Int32}   (po : h[b]? = some (.inr (11, [.ref (b + 1), .int (nI k), p2, .int 1, .int x, p5]))) (qa : h[b + 1]? = some (.inl (.byte, 60000, .inl qf))) (hk : k + 1 ≤ 60000)  : ab_M y_Store_writeByte { frames := 0, cells := 0, slots := 0, locals := 0 } [.ref b, .int 69] h (ab_A none (fun h1 => ∃ (y : Int32) (f : Nat → Int32), h1[b]? = some (.inr (11, [.ref (b + 1), .int (nI (k + 1)), p2, .int 1, .int y, p5])) ∧ h1[b + 1]? = some (.inl (.byte, 60000, .inl f)) ∧ ab_fr (fun j => j = b ∨ j = b + 1) h h1)) := by
  refine ab_of2 (lv := [some (.ref b), some (.int 69)]) 0 rfl rfl (Nat.le_of_ble_eq_true rfl) ?_
  refine ab_aload_n d_Store_writeByte_0 rfl rfl rfl ?_
  refine ab_bipush (v := 31) d_Store_writeByte_1 (by decide) ?_
  refine ab_aload_n d_Store_writeByte_3 rfl rfl rfl ?_
  refine ab_get (f := 4) d_Store_writeByte_4 po rfl (by decide) (k2 193 rfl rfl) rfl ?_
  refine ab_imul d_Store_writeByte_7 ?_
  refine ab_iload_n d_Store_writeByte_8 rfl rfl ?_
  refine ab_sipush (v := 255) d_Store_writeByte_9 (by decide) ?_
  refine ab_iand d_Store_writeByte_12 ?_
  refine ab_topi (fun x1 ex1 => ?_)
  obtain rfl : x1 = 69 := ex1.trans (by decide)
  clear ex1
  refine ab_iadd d_Store_writeByte_13 ?_
  refine ab_put (f := 4) d_Store_writeByte_14 po rfl (by decide) (k2 193 rfl rfl) rfl rfl (fun _ => rfl) (fun _ => rfl) (Nat.le_of_ble_eq_true rfl) ?_
  show ab_V _ _ _ _ _ _ _ 17 [some (.ref b), some (.int 69)] [] (h.set b (.inr (11, [.ref (b + 1), .int (nI k), p2, .int 1, .int ((31 * x) + 69), p5])))
  refine ab_gen (fun h2 e3 => ?_)
  have c4 : h2[b]? = some (.inr (11, [.ref (b + 1), .int (nI k), p2, .int 1, .int ((31 * x) + 69), p5])) := ab_self e3 po
  have c5 : h2[b+1]? = some (.inl (.byte, 60000, .inl qf)) := ab_other e3 (by omega) qa
  have fr6 : ab_fr (fun j => j = b ∨ j = b + 1) h h2 := ab_fr_set (ab_fr_rf _ _) e3 (by first | (show _ ∧ _; omega) | (show _ ∨ _; omega) | (show _ = _; omega) | (show _ ≤ _; omega))
  clear e3
  refine ab_aload_n d_Store_writeByte_17 rfl rfl rfl ?_
  refine ab_get (f := 3) d_Store_writeByte_18 c4 rfl (by decide) (k2 192 rfl rfl) rfl ?_
  refine ab_if_eq (tgt := 54) d_Store_writeByte_21 (by decide) (fun q7 => by exact absurd q7 (by decide)) (fun q7 => ?_)
  refine ab_aload_n d_Store_writeByte_24 rfl rfl rfl ?_
  refine ab_get (f := 1) d_Store_writeByte_25 c4 rfl (by decide) (k2 188 rfl rfl) rfl ?_
  refine ab_ldc d_Store_writeByte_28 (k2 185 rfl rfl) ?_
  refine ab_icmp_ge (tgt := 54) d_Store_writeByte_30 (by decide) (fun q8 => ?_) (fun q8 => ?_)
  · exact absurd ((nI_leI (a := 60000) (by omega) (by omega)).mp q8) (by omega)
  · refine ab_aload_n d_Store_writeByte_33 rfl rfl rfl ?_
    refine ab_get (f := 0) d_Store_writeByte_34 c4 rfl (by decide) (k2 186 rfl rfl) rfl ?_
    refine ab_aload_n d_Store_writeByte_37 rfl rfl rfl ?_
    refine ab_get (f := 1) d_Store_writeByte_38 c4 rfl (by decide) (k2 188 rfl rfl) rfl ?_
    refine ab_iload_n d_Store_writeByte_41 rfl rfl ?_
    refine ab_i2b d_Store_writeByte_42 ?_
    refine ab_topi (fun x9 ex9 => ?_)
    obtain rfl : x9 = 69 := ex9.trans (by decide)
    clear ex9
    refine ab_bast d_Store_writeByte_43 tB c5 (vp_in_nI (by omega) (by decide)) ?_
    refine ab_gen (fun h10 e11 => ?_)
    have c12 : h10[b]? = some (.inr (11, [.ref (b + 1), .int (nI k), p2, .int 1, .int ((31 * x) + 69), p5])) := ab_other e11 (by omega) c4
    have c13 : h10[b+1]? = some (.inl (.byte, 60000, .inl (upd qf ((nI k)).toNatClampNeg (vp_nar .byte 69)))) := ab_self e11 c5
    have fr14 : ab_fr (fun j => j = b ∨ j = b + 1) h h10 := ab_fr_set fr6 e11 (by first | (show _ ∧ _; omega) | (show _ ∨ _; omega) | (show _ = _; omega) | (show _ ≤ _; omega))
    clear c4 c5 fr6 e11
    try clear h2
    obtain ⟨y15, c16⟩ : ∃ f : Nat → Int32, h10[b+1]? = some (.inl (.byte, 60000, .inl f)) := ⟨_, c13⟩
    clear c13
    refine ab_aload_n d_Store_writeByte_44 rfl rfl rfl ?_
    refine ab_dup d_Store_writeByte_45 rfl ?_
    refine ab_get (f := 1) d_Store_writeByte_46 c12 rfl (by decide) (k2 188 rfl rfl) rfl ?_
    refine ab_iconst (v := 1) d_Store_writeByte_49 (by decide) ?_
    refine ab_iadd d_Store_writeByte_50 ?_
    refine ab_topi (fun x17 ex17 => ?_)
    obtain rfl : x17 = nI (k + 1) := ex17.trans (nI_1 _)
    clear ex17
    refine ab_put (f := 1) d_Store_writeByte_51 c12 rfl (by decide) (k2 188 rfl rfl) rfl rfl (fun _ => rfl) (fun _ => rfl) (Nat.le_of_ble_eq_true rfl) ?_
    show ab_V _ _ _ _ _ _ _ 54 [some (.ref b), some (.int 69)] [] (h10.set b (.inr (11, [.ref (b + 1), .int (nI (k + 1)), p2, .int 1, .int ((31 * x) + 69), p5])))
    refine ab_gen (fun h18 e19 => ?_)
    have c20 : h18[b]? = some (.inr (11, [.ref (b + 1), .int (nI (k + 1)), p2, .int 1, .int ((31 * x) + 69), p5])) := ab_self e19 c12
    have c21 : h18[b+1]? = some (.inl (.byte, 60000, .inl y15)) := ab_other e19 (by omega) c16
    have fr22 : ab_fr (fun j => j = b ∨ j = b + 1) h h18 := ab_fr_set fr14 e19 (by first | (show _ ∧ _; omega) | (show _ ∨ _; omega) | (show _ = _; omega) | (show _ ≤ _; omega))
    clear c12 c16 fr14 e19
    try clear h10
    exact ab_vret d_Store_writeByte_54 rfl (Nat.le_refl _) (Nat.le_refl _) (by exact ⟨rfl, _, _, c20, c21, fr22⟩)
set_option maxRecDepth 20000 in
set_option maxHeartbeats 2000000 in
theorem r_wb_k0 {h : List ab_E}  {p2 p5 : Value} {qf : Nat → Int32} {b k : Nat} {x : Int32}   (po : h[b]? = some (.inr (11, [.ref (b + 1), .int (nI k), p2, .int 1, .int x, p5]))) (qa : h[b + 1]? = some (.inl (.byte, 60000, .inl qf))) (hk : k + 1 ≤ 60000)  : ab_M y_Store_writeByte { frames := 0, cells := 0, slots := 0, locals := 0 } [.ref b, .int 0] h (ab_A none (fun h1 => ∃ (y : Int32) (f : Nat → Int32), h1[b]? = some (.inr (11, [.ref (b + 1), .int (nI (k + 1)), p2, .int 1, .int y, p5])) ∧ h1[b + 1]? = some (.inl (.byte, 60000, .inl f)) ∧ ab_fr (fun j => j = b ∨ j = b + 1) h h1)) := by
  refine ab_of2 (lv := [some (.ref b), some (.int 0)]) 0 rfl rfl (Nat.le_of_ble_eq_true rfl) ?_
  refine ab_aload_n d_Store_writeByte_0 rfl rfl rfl ?_
  refine ab_bipush (v := 31) d_Store_writeByte_1 (by decide) ?_
  refine ab_aload_n d_Store_writeByte_3 rfl rfl rfl ?_
  refine ab_get (f := 4) d_Store_writeByte_4 po rfl (by decide) (k2 193 rfl rfl) rfl ?_
  refine ab_imul d_Store_writeByte_7 ?_
  refine ab_iload_n d_Store_writeByte_8 rfl rfl ?_
  refine ab_sipush (v := 255) d_Store_writeByte_9 (by decide) ?_
  refine ab_iand d_Store_writeByte_12 ?_
  refine ab_topi (fun x1 ex1 => ?_)
  obtain rfl : x1 = 0 := ex1.trans (by decide)
  clear ex1
  refine ab_iadd d_Store_writeByte_13 ?_
  refine ab_put (f := 4) d_Store_writeByte_14 po rfl (by decide) (k2 193 rfl rfl) rfl rfl (fun _ => rfl) (fun _ => rfl) (Nat.le_of_ble_eq_true rfl) ?_
  show ab_V _ _ _ _ _ _ _ 17 [some (.ref b), some (.int 0)] [] (h.set b (.inr (11, [.ref (b + 1), .int (nI k), p2, .int 1, .int ((31 * x) + 0), p5])))
  refine ab_gen (fun h2 e3 => ?_)
  have c4 : h2[b]? = some (.inr (11, [.ref (b + 1), .int (nI k), p2, .int 1, .int ((31 * x) + 0), p5])) := ab_self e3 po
  have c5 : h2[b+1]? = some (.inl (.byte, 60000, .inl qf)) := ab_other e3 (by omega) qa
  have fr6 : ab_fr (fun j => j = b ∨ j = b + 1) h h2 := ab_fr_set (ab_fr_rf _ _) e3 (by first | (show _ ∧ _; omega) | (show _ ∨ _; omega) | (show _ = _; omega) | (show _ ≤ _; omega))
  clear e3
  refine ab_aload_n d_Store_writeByte_17 rfl rfl rfl ?_
  refine ab_get (f := 3) d_Store_writeByte_18 c4 rfl (by decide) (k2 192 rfl rfl) rfl ?_
  refine ab_if_eq (tgt := 54) d_Store_writeByte_21 (by decide) (fun q7 => by exact absurd q7 (by decide)) (fun q7 => ?_)
  refine ab_aload_n d_Store_writeByte_24 rfl rfl rfl ?_
  refine ab_get (f := 1) d_Store_writeByte_25 c4 rfl (by decide) (k2 188 rfl rfl) rfl ?_
  refine ab_ldc d_Store_writeByte_28 (k2 185 rfl rfl) ?_
  refine ab_icmp_ge (tgt := 54) d_Store_writeByte_30 (by decide) (fun q8 => ?_) (fun q8 => ?_)
  · exact absurd ((nI_leI (a := 60000) (by omega) (by omega)).mp q8) (by omega)
  · refine ab_aload_n d_Store_writeByte_33 rfl rfl rfl ?_
    refine ab_get (f := 0) d_Store_writeByte_34 c4 rfl (by decide) (k2 186 rfl rfl) rfl ?_
    refine ab_aload_n d_Store_writeByte_37 rfl rfl rfl ?_
    refine ab_get (f := 1) d_Store_writeByte_38 c4 rfl (by decide) (k2 188 rfl rfl) rfl ?_
    refine ab_iload_n d_Store_writeByte_41 rfl rfl ?_
    refine ab_i2b d_Store_writeByte_42 ?_
    refine ab_topi (fun x9 ex9 => ?_)
    obtain rfl : x9 = 0 := ex9.trans (by decide)
    clear ex9
    refine ab_bast d_Store_writeByte_43 tB c5 (vp_in_nI (by omega) (by decide)) ?_
    refine ab_gen (fun h10 e11 => ?_)
    have c12 : h10[b]? = some (.inr (11, [.ref (b + 1), .int (nI k), p2, .int 1, .int ((31 * x) + 0), p5])) := ab_other e11 (by omega) c4
    have c13 : h10[b+1]? = some (.inl (.byte, 60000, .inl (upd qf ((nI k)).toNatClampNeg (vp_nar .byte 0)))) := ab_self e11 c5
    have fr14 : ab_fr (fun j => j = b ∨ j = b + 1) h h10 := ab_fr_set fr6 e11 (by first | (show _ ∧ _; omega) | (show _ ∨ _; omega) | (show _ = _; omega) | (show _ ≤ _; omega))
    clear c4 c5 fr6 e11
    try clear h2
    obtain ⟨y15, c16⟩ : ∃ f : Nat → Int32, h10[b+1]? = some (.inl (.byte, 60000, .inl f)) := ⟨_, c13⟩
    clear c13
    refine ab_aload_n d_Store_writeByte_44 rfl rfl rfl ?_
    refine ab_dup d_Store_writeByte_45 rfl ?_
    refine ab_get (f := 1) d_Store_writeByte_46 c12 rfl (by decide) (k2 188 rfl rfl) rfl ?_
    refine ab_iconst (v := 1) d_Store_writeByte_49 (by decide) ?_
    refine ab_iadd d_Store_writeByte_50 ?_
    refine ab_topi (fun x17 ex17 => ?_)
    obtain rfl : x17 = nI (k + 1) := ex17.trans (nI_1 _)
    clear ex17
    refine ab_put (f := 1) d_Store_writeByte_51 c12 rfl (by decide) (k2 188 rfl rfl) rfl rfl (fun _ => rfl) (fun _ => rfl) (Nat.le_of_ble_eq_true rfl) ?_
    show ab_V _ _ _ _ _ _ _ 54 [some (.ref b), some (.int 0)] [] (h10.set b (.inr (11, [.ref (b + 1), .int (nI (k + 1)), p2, .int 1, .int ((31 * x) + 0), p5])))
    refine ab_gen (fun h18 e19 => ?_)
    have c20 : h18[b]? = some (.inr (11, [.ref (b + 1), .int (nI (k + 1)), p2, .int 1, .int ((31 * x) + 0), p5])) := ab_self e19 c12
    have c21 : h18[b+1]? = some (.inl (.byte, 60000, .inl y15)) := ab_other e19 (by omega) c16
    have fr22 : ab_fr (fun j => j = b ∨ j = b + 1) h h18 := ab_fr_set fr14 e19 (by first | (show _ ∧ _; omega) | (show _ ∨ _; omega) | (show _ = _; omega) | (show _ ≤ _; omega))
    clear c12 c16 fr14 e19
    try clear h10
    exact ab_vret d_Store_writeByte_54 rfl (Nat.le_refl _) (Nat.le_refl _) (by exact ⟨rfl, _, _, c20, c21, fr22⟩)
set_option maxRecDepth 20000 in
set_option maxHeartbeats 2000000 in
theorem r_wi_s {h : List ab_E}  {p1 p2 p5 : Value} {b : Nat} {x : Int32}   (po : h[b]? = some (.inr (11, [.ref (b + 1), p1, p2, .int 0, .int x, p5])))  : ab_M y_Store_writeInt { frames := 1, cells := 0, slots := 0, locals := 40 } [.ref b, .int 0] h (ab_A none (fun h1 => h1[b]? = some (.inr (11, [.ref (b + 1), p1, p2, .int 0, .int (hz 4 x), p5])) ∧ ab_fr (fun j => j = b) h h1)) := by
  refine ab_of2 (lv := [some (.ref b), some (.int 0), none]) 1 rfl rfl (Nat.le_of_ble_eq_true rfl) ?_
  refine ab_bipush (v := 24) d_Store_writeInt_0 (by decide) ?_
  refine ab_istore_n (lv' := [some (.ref b), some (.int 0), some (.int 24)]) d_Store_writeInt_2 rfl (by decide) rfl ?_
  refine ab_iload_n d_Store_writeInt_3 rfl rfl ?_
  refine ab_if_lt (tgt := 20) d_Store_writeInt_4 (by decide) (fun q1 => by exact absurd q1 (by decide)) (fun q1 => ?_)
  refine ab_aload_n d_Store_writeInt_7 rfl rfl rfl ?_
  refine ab_iload_n d_Store_writeInt_8 rfl rfl ?_
  refine ab_iload_n d_Store_writeInt_9 rfl rfl ?_
  refine ab_ishr d_Store_writeInt_10 ?_
  refine ab_topi (fun x2 ex2 => ?_)
  obtain rfl : x2 = 0 := ex2.trans (by decide)
  clear ex2
  refine ab_callV_v (As := [.int 0]) (rest := []) d_Store_writeInt_11 (r_wb_s0 po) (ab_mkC s_Store_writeByte (Nat.le_of_ble_eq_true rfl) (Nat.le_of_ble_eq_true rfl) (by decide) (by decide)) (k8 0 rfl rfl) i_Store_writeByte v_Store_writeByte po rfl rfl (Nat.le_of_ble_eq_true rfl) (fun h3 q4 => ?_)
  obtain ⟨c6, f5⟩ := q4
  have fr7 : ab_fr (fun j => j = b) h h3 := ab_fr_tr (ab_fr_rf _ _) f5
  clear f5
  replace c6 : h3[b]? = some (.inr (11, [.ref (b + 1), p1, p2, .int 0, .int (hz 1 x), p5])) := c6
  refine ab_iinc (v := 16) (lv' := [some (.ref b), some (.int 0), some (.int 16)]) d_Store_writeInt_14 rfl (by decide) (by decide) rfl ?_
  refine ab_goto (tgt := 3) d_Store_writeInt_17 (by decide) ?_
  refine ab_iload_n d_Store_writeInt_3 rfl rfl ?_
  refine ab_if_lt (tgt := 20) d_Store_writeInt_4 (by decide) (fun q8 => by exact absurd q8 (by decide)) (fun q8 => ?_)
  refine ab_aload_n d_Store_writeInt_7 rfl rfl rfl ?_
  refine ab_iload_n d_Store_writeInt_8 rfl rfl ?_
  refine ab_iload_n d_Store_writeInt_9 rfl rfl ?_
  refine ab_ishr d_Store_writeInt_10 ?_
  refine ab_topi (fun x9 ex9 => ?_)
  obtain rfl : x9 = 0 := ex9.trans (by decide)
  clear ex9
  refine ab_callV_v (As := [.int 0]) (rest := []) d_Store_writeInt_11 (r_wb_s0 c6) (ab_mkC s_Store_writeByte (Nat.le_of_ble_eq_true rfl) (Nat.le_of_ble_eq_true rfl) (by decide) (by decide)) (k8 0 rfl rfl) i_Store_writeByte v_Store_writeByte c6 rfl rfl (Nat.le_of_ble_eq_true rfl) (fun h10 q11 => ?_)
  obtain ⟨c13, f12⟩ := q11
  have fr14 : ab_fr (fun j => j = b) h h10 := ab_fr_tr fr7 f12
  clear c6 f12 fr7
  try clear h3
  replace c13 : h10[b]? = some (.inr (11, [.ref (b + 1), p1, p2, .int 0, .int (hz 1 (hz 1 x)), p5])) := c13
  refine ab_iinc (v := 8) (lv' := [some (.ref b), some (.int 0), some (.int 8)]) d_Store_writeInt_14 rfl (by decide) (by decide) rfl ?_
  refine ab_goto (tgt := 3) d_Store_writeInt_17 (by decide) ?_
  refine ab_iload_n d_Store_writeInt_3 rfl rfl ?_
  refine ab_if_lt (tgt := 20) d_Store_writeInt_4 (by decide) (fun q15 => by exact absurd q15 (by decide)) (fun q15 => ?_)
  refine ab_aload_n d_Store_writeInt_7 rfl rfl rfl ?_
  refine ab_iload_n d_Store_writeInt_8 rfl rfl ?_
  refine ab_iload_n d_Store_writeInt_9 rfl rfl ?_
  refine ab_ishr d_Store_writeInt_10 ?_
  refine ab_topi (fun x16 ex16 => ?_)
  obtain rfl : x16 = 0 := ex16.trans (by decide)
  clear ex16
  refine ab_callV_v (As := [.int 0]) (rest := []) d_Store_writeInt_11 (r_wb_s0 c13) (ab_mkC s_Store_writeByte (Nat.le_of_ble_eq_true rfl) (Nat.le_of_ble_eq_true rfl) (by decide) (by decide)) (k8 0 rfl rfl) i_Store_writeByte v_Store_writeByte c13 rfl rfl (Nat.le_of_ble_eq_true rfl) (fun h17 q18 => ?_)
  obtain ⟨c20, f19⟩ := q18
  have fr21 : ab_fr (fun j => j = b) h h17 := ab_fr_tr fr14 f19
  clear c13 f19 fr14
  try clear h10
  replace c20 : h17[b]? = some (.inr (11, [.ref (b + 1), p1, p2, .int 0, .int (hz 1 (hz 1 (hz 1 x))), p5])) := c20
  refine ab_iinc (v := 0) (lv' := [some (.ref b), some (.int 0), some (.int 0)]) d_Store_writeInt_14 rfl (by decide) (by decide) rfl ?_
  refine ab_goto (tgt := 3) d_Store_writeInt_17 (by decide) ?_
  refine ab_iload_n d_Store_writeInt_3 rfl rfl ?_
  refine ab_if_lt (tgt := 20) d_Store_writeInt_4 (by decide) (fun q22 => by exact absurd q22 (by decide)) (fun q22 => ?_)
  refine ab_aload_n d_Store_writeInt_7 rfl rfl rfl ?_
  refine ab_iload_n d_Store_writeInt_8 rfl rfl ?_
  refine ab_iload_n d_Store_writeInt_9 rfl rfl ?_
  refine ab_ishr d_Store_writeInt_10 ?_
  refine ab_topi (fun x23 ex23 => ?_)
  obtain rfl : x23 = 0 := ex23.trans (by decide)
  clear ex23
  refine ab_callV_v (As := [.int 0]) (rest := []) d_Store_writeInt_11 (r_wb_s0 c20) (ab_mkC s_Store_writeByte (Nat.le_of_ble_eq_true rfl) (Nat.le_of_ble_eq_true rfl) (by decide) (by decide)) (k8 0 rfl rfl) i_Store_writeByte v_Store_writeByte c20 rfl rfl (Nat.le_of_ble_eq_true rfl) (fun h24 q25 => ?_)
  obtain ⟨c27, f26⟩ := q25
  have fr28 : ab_fr (fun j => j = b) h h24 := ab_fr_tr fr21 f26
  clear c20 f26 fr21
  try clear h17
  replace c27 : h24[b]? = some (.inr (11, [.ref (b + 1), p1, p2, .int 0, .int (hz 1 (hz 1 (hz 1 (hz 1 x)))), p5])) := c27
  refine ab_iinc (v := (-8)) (lv' := [some (.ref b), some (.int 0), some (.int (-8))]) d_Store_writeInt_14 rfl (by decide) (by decide) rfl ?_
  refine ab_goto (tgt := 3) d_Store_writeInt_17 (by decide) ?_
  refine ab_iload_n d_Store_writeInt_3 rfl rfl ?_
  refine ab_if_lt (tgt := 20) d_Store_writeInt_4 (by decide) (fun q29 => ?_) (fun q29 => by exact absurd (by decide) q29)
  exact ab_vret d_Store_writeInt_20 rfl (Nat.le_refl _) (Nat.le_refl _) (by exact ⟨rfl, c27, fr28⟩)
set_option maxRecDepth 20000 in
set_option maxHeartbeats 2000000 in
theorem r_wi_k {h : List ab_E}  {p2 p5 : Value} {qf : Nat → Int32} {b k : Nat} {x : Int32}   (po : h[b]? = some (.inr (11, [.ref (b + 1), .int (nI k), p2, .int 1, .int x, p5]))) (qa : h[b + 1]? = some (.inl (.byte, 60000, .inl qf))) (hk : k + 4 ≤ 60000)  : ab_M y_Store_writeInt { frames := 1, cells := 0, slots := 0, locals := 40 } [.ref b, .int 0] h (ab_A none (fun h1 => ∃ (y : Int32) (f : Nat → Int32), h1[b]? = some (.inr (11, [.ref (b + 1), .int (nI (k + 4)), p2, .int 1, .int y, p5])) ∧ h1[b + 1]? = some (.inl (.byte, 60000, .inl f)) ∧ ab_fr (fun j => j = b ∨ j = b + 1) h h1)) := by
  refine ab_of2 (lv := [some (.ref b), some (.int 0), none]) 1 rfl rfl (Nat.le_of_ble_eq_true rfl) ?_
  refine ab_bipush (v := 24) d_Store_writeInt_0 (by decide) ?_
  refine ab_istore_n (lv' := [some (.ref b), some (.int 0), some (.int 24)]) d_Store_writeInt_2 rfl (by decide) rfl ?_
  refine ab_iload_n d_Store_writeInt_3 rfl rfl ?_
  refine ab_if_lt (tgt := 20) d_Store_writeInt_4 (by decide) (fun q1 => by exact absurd q1 (by decide)) (fun q1 => ?_)
  refine ab_aload_n d_Store_writeInt_7 rfl rfl rfl ?_
  refine ab_iload_n d_Store_writeInt_8 rfl rfl ?_
  refine ab_iload_n d_Store_writeInt_9 rfl rfl ?_
  refine ab_ishr d_Store_writeInt_10 ?_
  refine ab_topi (fun x2 ex2 => ?_)
  obtain rfl : x2 = 0 := ex2.trans (by decide)
  clear ex2
  refine ab_callV_v (As := [.int 0]) (rest := []) d_Store_writeInt_11 (r_wb_k0 (k := k) po qa (by omega)) (ab_mkC s_Store_writeByte (Nat.le_of_ble_eq_true rfl) (Nat.le_of_ble_eq_true rfl) (by decide) (by decide)) (k8 0 rfl rfl) i_Store_writeByte v_Store_writeByte po rfl rfl (Nat.le_of_ble_eq_true rfl) (fun h3 q4 => ?_)
  obtain ⟨y8, y9, c6, c7, f5⟩ := q4
  have fr10 : ab_fr (fun j => j = b ∨ j = b + 1) h h3 := ab_fr_tr (ab_fr_rf _ _) f5
  clear f5
  replace c6 : h3[b]? = some (.inr (11, [.ref (b + 1), .int (nI (k + 1)), p2, .int 1, .int y8, p5])) := c6
  replace c7 : h3[b+1]? = some (.inl (.byte, 60000, .inl y9)) := c7
  refine ab_iinc (v := 16) (lv' := [some (.ref b), some (.int 0), some (.int 16)]) d_Store_writeInt_14 rfl (by decide) (by decide) rfl ?_
  refine ab_goto (tgt := 3) d_Store_writeInt_17 (by decide) ?_
  refine ab_iload_n d_Store_writeInt_3 rfl rfl ?_
  refine ab_if_lt (tgt := 20) d_Store_writeInt_4 (by decide) (fun q11 => by exact absurd q11 (by decide)) (fun q11 => ?_)
  refine ab_aload_n d_Store_writeInt_7 rfl rfl rfl ?_
  refine ab_iload_n d_Store_writeInt_8 rfl rfl ?_
  refine ab_iload_n d_Store_writeInt_9 rfl rfl ?_
  refine ab_ishr d_Store_writeInt_10 ?_
  refine ab_topi (fun x12 ex12 => ?_)
  obtain rfl : x12 = 0 := ex12.trans (by decide)
  clear ex12
  refine ab_callV_v (As := [.int 0]) (rest := []) d_Store_writeInt_11 (r_wb_k0 (k := k + 1) c6 c7 (by omega)) (ab_mkC s_Store_writeByte (Nat.le_of_ble_eq_true rfl) (Nat.le_of_ble_eq_true rfl) (by decide) (by decide)) (k8 0 rfl rfl) i_Store_writeByte v_Store_writeByte c6 rfl rfl (Nat.le_of_ble_eq_true rfl) (fun h13 q14 => ?_)
  obtain ⟨y18, y19, c16, c17, f15⟩ := q14
  have fr20 : ab_fr (fun j => j = b ∨ j = b + 1) h h13 := ab_fr_tr fr10 f15
  clear c6 c7 f15 fr10
  try clear h3
  replace c16 : h13[b]? = some (.inr (11, [.ref (b + 1), .int (nI (k + 1 + 1)), p2, .int 1, .int y18, p5])) := c16
  replace c17 : h13[b+1]? = some (.inl (.byte, 60000, .inl y19)) := c17
  refine ab_iinc (v := 8) (lv' := [some (.ref b), some (.int 0), some (.int 8)]) d_Store_writeInt_14 rfl (by decide) (by decide) rfl ?_
  refine ab_goto (tgt := 3) d_Store_writeInt_17 (by decide) ?_
  refine ab_iload_n d_Store_writeInt_3 rfl rfl ?_
  refine ab_if_lt (tgt := 20) d_Store_writeInt_4 (by decide) (fun q21 => by exact absurd q21 (by decide)) (fun q21 => ?_)
  refine ab_aload_n d_Store_writeInt_7 rfl rfl rfl ?_
  refine ab_iload_n d_Store_writeInt_8 rfl rfl ?_
  refine ab_iload_n d_Store_writeInt_9 rfl rfl ?_
  refine ab_ishr d_Store_writeInt_10 ?_
  refine ab_topi (fun x22 ex22 => ?_)
  obtain rfl : x22 = 0 := ex22.trans (by decide)
  clear ex22
  refine ab_callV_v (As := [.int 0]) (rest := []) d_Store_writeInt_11 (r_wb_k0 (k := k + 1 + 1) c16 c17 (by omega)) (ab_mkC s_Store_writeByte (Nat.le_of_ble_eq_true rfl) (Nat.le_of_ble_eq_true rfl) (by decide) (by decide)) (k8 0 rfl rfl) i_Store_writeByte v_Store_writeByte c16 rfl rfl (Nat.le_of_ble_eq_true rfl) (fun h23 q24 => ?_)
  obtain ⟨y28, y29, c26, c27, f25⟩ := q24
  have fr30 : ab_fr (fun j => j = b ∨ j = b + 1) h h23 := ab_fr_tr fr20 f25
  clear c16 c17 f25 fr20
  try clear h13
  replace c26 : h23[b]? = some (.inr (11, [.ref (b + 1), .int (nI (k + 1 + 1 + 1)), p2, .int 1, .int y28, p5])) := c26
  replace c27 : h23[b+1]? = some (.inl (.byte, 60000, .inl y29)) := c27
  refine ab_iinc (v := 0) (lv' := [some (.ref b), some (.int 0), some (.int 0)]) d_Store_writeInt_14 rfl (by decide) (by decide) rfl ?_
  refine ab_goto (tgt := 3) d_Store_writeInt_17 (by decide) ?_
  refine ab_iload_n d_Store_writeInt_3 rfl rfl ?_
  refine ab_if_lt (tgt := 20) d_Store_writeInt_4 (by decide) (fun q31 => by exact absurd q31 (by decide)) (fun q31 => ?_)
  refine ab_aload_n d_Store_writeInt_7 rfl rfl rfl ?_
  refine ab_iload_n d_Store_writeInt_8 rfl rfl ?_
  refine ab_iload_n d_Store_writeInt_9 rfl rfl ?_
  refine ab_ishr d_Store_writeInt_10 ?_
  refine ab_topi (fun x32 ex32 => ?_)
  obtain rfl : x32 = 0 := ex32.trans (by decide)
  clear ex32
  refine ab_callV_v (As := [.int 0]) (rest := []) d_Store_writeInt_11 (r_wb_k0 (k := k + 1 + 1 + 1) c26 c27 (by omega)) (ab_mkC s_Store_writeByte (Nat.le_of_ble_eq_true rfl) (Nat.le_of_ble_eq_true rfl) (by decide) (by decide)) (k8 0 rfl rfl) i_Store_writeByte v_Store_writeByte c26 rfl rfl (Nat.le_of_ble_eq_true rfl) (fun h33 q34 => ?_)
  obtain ⟨y38, y39, c36, c37, f35⟩ := q34
  have fr40 : ab_fr (fun j => j = b ∨ j = b + 1) h h33 := ab_fr_tr fr30 f35
  clear c26 c27 f35 fr30
  try clear h23
  replace c36 : h33[b]? = some (.inr (11, [.ref (b + 1), .int (nI (k + 1 + 1 + 1 + 1)), p2, .int 1, .int y38, p5])) := c36
  replace c37 : h33[b+1]? = some (.inl (.byte, 60000, .inl y39)) := c37
  refine ab_iinc (v := (-8)) (lv' := [some (.ref b), some (.int 0), some (.int (-8))]) d_Store_writeInt_14 rfl (by decide) (by decide) rfl ?_
  refine ab_goto (tgt := 3) d_Store_writeInt_17 (by decide) ?_
  refine ab_iload_n d_Store_writeInt_3 rfl rfl ?_
  refine ab_if_lt (tgt := 20) d_Store_writeInt_4 (by decide) (fun q41 => ?_) (fun q41 => by exact absurd (by decide) q41)
  exact ab_vret d_Store_writeInt_20 rfl (Nat.le_refl _) (Nat.le_refl _) (by exact ⟨rfl, _, _, c36, c37, fr40⟩)
set_option maxRecDepth 20000 in
set_option maxHeartbeats 2000000 in
theorem r_ws_s {h : List ab_E}  {p1 p2 p5 : Value} {cv0 cv1 cv2 : Value} {b g : Nat} {x : Int32}  (po : h[b]? = some (.inr (11, [.ref (b + 1), p1, p2, .int 0, .int x, p5]))) (co : h[g]? = some (.inr (3, [cv0, cv1, cv2, .int 0]))) (hgb : g ≠ b) (hgb1 : g ≠ b + 1) : ab_M y_Store_writeShapes { frames := 1, cells := 0, slots := 0, locals := 40 } [.ref b, .ref g] h (ab_A none (fun h1 => h1[b]? = some (.inr (11, [.ref (b + 1), p1, p2, .int 0, .int (hz 1 x), p5])) ∧ ab_fr (fun j => j = b) h h1)) := by
  refine ab_of2 (lv := [some (.ref b), some (.ref g), none, none]) 2 rfl rfl (Nat.le_of_ble_eq_true rfl) ?_
  refine ab_aload_n d_Store_writeShapes_0 rfl rfl rfl ?_
  refine ab_aload_n d_Store_writeShapes_1 rfl rfl rfl ?_
  refine ab_get (f := 3) d_Store_writeShapes_2 co rfl (by decide) (k3 40 rfl rfl) rfl ?_
  refine ab_callV_v (As := [.int 0]) (rest := []) d_Store_writeShapes_5 (r_wb_s0 po) (ab_mkC s_Store_writeByte (Nat.le_of_ble_eq_true rfl) (Nat.le_of_ble_eq_true rfl) (by decide) (by decide)) (k8 0 rfl rfl) i_Store_writeByte v_Store_writeByte po rfl rfl (Nat.le_of_ble_eq_true rfl) (fun h1 q2 => ?_)
  obtain ⟨c4, f3⟩ := q2
  have c5 : h1[g]? = some (.inr (3, [cv0, cv1, cv2, .int 0])) := ab_fr_at f3 co (by omega)
  have fr6 : ab_fr (fun j => j = b) h h1 := ab_fr_tr (ab_fr_rf _ _) f3
  clear f3
  replace c4 : h1[b]? = some (.inr (11, [.ref (b + 1), p1, p2, .int 0, .int (hz 1 x), p5])) := c4
  refine ab_iconst (v := 0) d_Store_writeShapes_8 (by decide) ?_
  refine ab_istore_n (lv' := [some (.ref b), some (.ref g), some (.int 0), none]) d_Store_writeShapes_9 rfl (by decide) rfl ?_
  refine ab_iload_n d_Store_writeShapes_10 rfl rfl ?_
  refine ab_aload_n d_Store_writeShapes_11 rfl rfl rfl ?_
  refine ab_get (f := 3) d_Store_writeShapes_12 c5 rfl (by decide) (k3 40 rfl rfl) rfl ?_
  refine ab_icmp_ge (tgt := 71) d_Store_writeShapes_15 (by decide) (fun q7 => ?_) (fun q7 => by exact absurd (by decide) q7)
  exact ab_vret d_Store_writeShapes_71 rfl (Nat.le_refl _) (Nat.le_refl _) (by exact ⟨rfl, c4, fr6⟩)
set_option maxRecDepth 20000 in
set_option maxHeartbeats 2000000 in
theorem r_ws_k {h : List ab_E}  {p2 p5 : Value} {qf : Nat → Int32} {cv0 cv1 cv2 : Value} {b k : Nat} {x : Int32} {g : Nat}  (po : h[b]? = some (.inr (11, [.ref (b + 1), .int (nI k), p2, .int 1, .int x, p5]))) (qa : h[b + 1]? = some (.inl (.byte, 60000, .inl qf))) (co : h[g]? = some (.inr (3, [cv0, cv1, cv2, .int 0]))) (hk : k + 1 ≤ 60000) (hgb : g ≠ b) (hgb1 : g ≠ b + 1) : ab_M y_Store_writeShapes { frames := 1, cells := 0, slots := 0, locals := 40 } [.ref b, .ref g] h (ab_A none (fun h1 => ∃ (y : Int32) (f : Nat → Int32), h1[b]? = some (.inr (11, [.ref (b + 1), .int (nI (k + 1)), p2, .int 1, .int y, p5])) ∧ h1[b + 1]? = some (.inl (.byte, 60000, .inl f)) ∧ ab_fr (fun j => j = b ∨ j = b + 1) h h1)) := by
  refine ab_of2 (lv := [some (.ref b), some (.ref g), none, none]) 2 rfl rfl (Nat.le_of_ble_eq_true rfl) ?_
  refine ab_aload_n d_Store_writeShapes_0 rfl rfl rfl ?_
  refine ab_aload_n d_Store_writeShapes_1 rfl rfl rfl ?_
  refine ab_get (f := 3) d_Store_writeShapes_2 co rfl (by decide) (k3 40 rfl rfl) rfl ?_
  refine ab_callV_v (As := [.int 0]) (rest := []) d_Store_writeShapes_5 (r_wb_k0 (k := k) po qa (by omega)) (ab_mkC s_Store_writeByte (Nat.le_of_ble_eq_true rfl) (Nat.le_of_ble_eq_true rfl) (by decide) (by decide)) (k8 0 rfl rfl) i_Store_writeByte v_Store_writeByte po rfl rfl (Nat.le_of_ble_eq_true rfl) (fun h1 q2 => ?_)
  obtain ⟨y6, y7, c4, c5, f3⟩ := q2
  have c8 : h1[g]? = some (.inr (3, [cv0, cv1, cv2, .int 0])) := ab_fr_at f3 co (by omega)
  have fr9 : ab_fr (fun j => j = b ∨ j = b + 1) h h1 := ab_fr_tr (ab_fr_rf _ _) f3
  clear f3
  replace c4 : h1[b]? = some (.inr (11, [.ref (b + 1), .int (nI (k + 1)), p2, .int 1, .int y6, p5])) := c4
  replace c5 : h1[b+1]? = some (.inl (.byte, 60000, .inl y7)) := c5
  refine ab_iconst (v := 0) d_Store_writeShapes_8 (by decide) ?_
  refine ab_istore_n (lv' := [some (.ref b), some (.ref g), some (.int 0), none]) d_Store_writeShapes_9 rfl (by decide) rfl ?_
  refine ab_iload_n d_Store_writeShapes_10 rfl rfl ?_
  refine ab_aload_n d_Store_writeShapes_11 rfl rfl rfl ?_
  refine ab_get (f := 3) d_Store_writeShapes_12 c8 rfl (by decide) (k3 40 rfl rfl) rfl ?_
  refine ab_icmp_ge (tgt := 71) d_Store_writeShapes_15 (by decide) (fun q10 => ?_) (fun q10 => by exact absurd (by decide) q10)
  exact ab_vret d_Store_writeShapes_71 rfl (Nat.le_refl _) (Nat.le_refl _) (by exact ⟨rfl, _, _, c4, c5, fr9⟩)
set_option maxRecDepth 20000 in
set_option maxHeartbeats 2000000 in
theorem r_we_s {h : List ab_E}  {p1 p2 p5 : Value} {cv0 cv1 cv2 cv3 cv4 cv5 cv6 cv7 cv8 cv9 cv10 cv11 cv12 cv14 cv15 : Value} {b g v : Nat} {x : Int32}  (po : h[b]? = some (.inr (11, [.ref (b + 1), p1, p2, .int 0, .int x, p5]))) (co : h[v]? = some (.inr (7, [cv0, cv1, cv2, cv3, cv4, cv5, cv6, cv7, cv8, cv9, cv10, cv11, cv12, .int 0, cv14, cv15]))) (hvb : v ≠ b) (hvb1 : v ≠ b + 1) : ab_M y_Store_writeEvents { frames := 1, cells := 0, slots := 0, locals := 40 } [.ref b, .ref g, .ref v] h (ab_A none (fun h1 => h1[b]? = some (.inr (11, [.ref (b + 1), p1, p2, .int 0, .int (hz 1 (hz 1 x)), p5])) ∧ ab_fr (fun j => j = b) h h1)) := by
  refine ab_of2 (lv := [some (.ref b), some (.ref g), some (.ref v), none, none, none, none]) 4 rfl rfl (Nat.le_of_ble_eq_true rfl) ?_
  refine ab_aload_n d_Store_writeEvents_0 rfl rfl rfl ?_
  refine ab_aload_n d_Store_writeEvents_1 rfl rfl rfl ?_
  refine ab_get (f := 13) d_Store_writeEvents_2 co rfl (by decide) (k2 5 rfl rfl) rfl ?_
  refine ab_bipush (v := 8) d_Store_writeEvents_5 (by decide) ?_
  refine ab_ishr d_Store_writeEvents_7 ?_
  refine ab_topi (fun x1 ex1 => ?_)
  obtain rfl : x1 = 0 := ex1.trans (by decide)
  clear ex1
  refine ab_callV_v (As := [.int 0]) (rest := []) d_Store_writeEvents_8 (r_wb_s0 po) (ab_mkC s_Store_writeByte (Nat.le_of_ble_eq_true rfl) (Nat.le_of_ble_eq_true rfl) (by decide) (by decide)) (k8 0 rfl rfl) i_Store_writeByte v_Store_writeByte po rfl rfl (Nat.le_of_ble_eq_true rfl) (fun h2 q3 => ?_)
  obtain ⟨c5, f4⟩ := q3
  have c6 : h2[v]? = some (.inr (7, [cv0, cv1, cv2, cv3, cv4, cv5, cv6, cv7, cv8, cv9, cv10, cv11, cv12, .int 0, cv14, cv15])) := ab_fr_at f4 co (by omega)
  have fr7 : ab_fr (fun j => j = b) h h2 := ab_fr_tr (ab_fr_rf _ _) f4
  clear f4
  replace c5 : h2[b]? = some (.inr (11, [.ref (b + 1), p1, p2, .int 0, .int (hz 1 x), p5])) := c5
  refine ab_aload_n d_Store_writeEvents_11 rfl rfl rfl ?_
  refine ab_aload_n d_Store_writeEvents_12 rfl rfl rfl ?_
  refine ab_get (f := 13) d_Store_writeEvents_13 c6 rfl (by decide) (k2 5 rfl rfl) rfl ?_
  refine ab_callV_v (As := [.int 0]) (rest := []) d_Store_writeEvents_16 (r_wb_s0 c5) (ab_mkC s_Store_writeByte (Nat.le_of_ble_eq_true rfl) (Nat.le_of_ble_eq_true rfl) (by decide) (by decide)) (k8 0 rfl rfl) i_Store_writeByte v_Store_writeByte c5 rfl rfl (Nat.le_of_ble_eq_true rfl) (fun h8 q9 => ?_)
  obtain ⟨c11, f10⟩ := q9
  have c12 : h8[v]? = some (.inr (7, [cv0, cv1, cv2, cv3, cv4, cv5, cv6, cv7, cv8, cv9, cv10, cv11, cv12, .int 0, cv14, cv15])) := ab_fr_at f10 c6 (by omega)
  have fr13 : ab_fr (fun j => j = b) h h8 := ab_fr_tr fr7 f10
  clear c6 c5 f10 fr7
  try clear h2
  replace c11 : h8[b]? = some (.inr (11, [.ref (b + 1), p1, p2, .int 0, .int (hz 1 (hz 1 x)), p5])) := c11
  refine ab_iconst (v := 0) d_Store_writeEvents_19 (by decide) ?_
  refine ab_istore_n (lv' := [some (.ref b), some (.ref g), some (.ref v), some (.int 0), none, none, none]) d_Store_writeEvents_20 rfl (by decide) rfl ?_
  refine ab_iload_n d_Store_writeEvents_21 rfl rfl ?_
  refine ab_aload_n d_Store_writeEvents_22 rfl rfl rfl ?_
  refine ab_get (f := 13) d_Store_writeEvents_23 c12 rfl (by decide) (k2 5 rfl rfl) rfl ?_
  refine ab_icmp_ge (tgt := 97) d_Store_writeEvents_26 (by decide) (fun q14 => ?_) (fun q14 => by exact absurd (by decide) q14)
  exact ab_vret d_Store_writeEvents_97 rfl (Nat.le_refl _) (Nat.le_refl _) (by exact ⟨rfl, c11, fr13⟩)
set_option maxRecDepth 20000 in
set_option maxHeartbeats 2000000 in
theorem r_we_k {h : List ab_E}  {p2 p5 : Value} {qf : Nat → Int32} {cv0 cv1 cv2 cv3 cv4 cv5 cv6 cv7 cv8 cv9 cv10 cv11 cv12 cv14 cv15 : Value} {b k : Nat} {x : Int32} {g v : Nat}  (po : h[b]? = some (.inr (11, [.ref (b + 1), .int (nI k), p2, .int 1, .int x, p5]))) (qa : h[b + 1]? = some (.inl (.byte, 60000, .inl qf))) (co : h[v]? = some (.inr (7, [cv0, cv1, cv2, cv3, cv4, cv5, cv6, cv7, cv8, cv9, cv10, cv11, cv12, .int 0, cv14, cv15]))) (hk : k + 2 ≤ 60000) (hvb : v ≠ b) (hvb1 : v ≠ b + 1) : ab_M y_Store_writeEvents { frames := 1, cells := 0, slots := 0, locals := 40 } [.ref b, .ref g, .ref v] h (ab_A none (fun h1 => ∃ (y : Int32) (f : Nat → Int32), h1[b]? = some (.inr (11, [.ref (b + 1), .int (nI (k + 2)), p2, .int 1, .int y, p5])) ∧ h1[b + 1]? = some (.inl (.byte, 60000, .inl f)) ∧ ab_fr (fun j => j = b ∨ j = b + 1) h h1)) := by
  refine ab_of2 (lv := [some (.ref b), some (.ref g), some (.ref v), none, none, none, none]) 4 rfl rfl (Nat.le_of_ble_eq_true rfl) ?_
  refine ab_aload_n d_Store_writeEvents_0 rfl rfl rfl ?_
  refine ab_aload_n d_Store_writeEvents_1 rfl rfl rfl ?_
  refine ab_get (f := 13) d_Store_writeEvents_2 co rfl (by decide) (k2 5 rfl rfl) rfl ?_
  refine ab_bipush (v := 8) d_Store_writeEvents_5 (by decide) ?_
  refine ab_ishr d_Store_writeEvents_7 ?_
  refine ab_topi (fun x1 ex1 => ?_)
  obtain rfl : x1 = 0 := ex1.trans (by decide)
  clear ex1
  refine ab_callV_v (As := [.int 0]) (rest := []) d_Store_writeEvents_8 (r_wb_k0 (k := k) po qa (by omega)) (ab_mkC s_Store_writeByte (Nat.le_of_ble_eq_true rfl) (Nat.le_of_ble_eq_true rfl) (by decide) (by decide)) (k8 0 rfl rfl) i_Store_writeByte v_Store_writeByte po rfl rfl (Nat.le_of_ble_eq_true rfl) (fun h2 q3 => ?_)
  obtain ⟨y7, y8, c5, c6, f4⟩ := q3
  have c9 : h2[v]? = some (.inr (7, [cv0, cv1, cv2, cv3, cv4, cv5, cv6, cv7, cv8, cv9, cv10, cv11, cv12, .int 0, cv14, cv15])) := ab_fr_at f4 co (by omega)
  have fr10 : ab_fr (fun j => j = b ∨ j = b + 1) h h2 := ab_fr_tr (ab_fr_rf _ _) f4
  clear f4
  replace c5 : h2[b]? = some (.inr (11, [.ref (b + 1), .int (nI (k + 1)), p2, .int 1, .int y7, p5])) := c5
  replace c6 : h2[b+1]? = some (.inl (.byte, 60000, .inl y8)) := c6
  refine ab_aload_n d_Store_writeEvents_11 rfl rfl rfl ?_
  refine ab_aload_n d_Store_writeEvents_12 rfl rfl rfl ?_
  refine ab_get (f := 13) d_Store_writeEvents_13 c9 rfl (by decide) (k2 5 rfl rfl) rfl ?_
  refine ab_callV_v (As := [.int 0]) (rest := []) d_Store_writeEvents_16 (r_wb_k0 (k := k + 1) c5 c6 (by omega)) (ab_mkC s_Store_writeByte (Nat.le_of_ble_eq_true rfl) (Nat.le_of_ble_eq_true rfl) (by decide) (by decide)) (k8 0 rfl rfl) i_Store_writeByte v_Store_writeByte c5 rfl rfl (Nat.le_of_ble_eq_true rfl) (fun h11 q12 => ?_)
  obtain ⟨y16, y17, c14, c15, f13⟩ := q12
  have c18 : h11[v]? = some (.inr (7, [cv0, cv1, cv2, cv3, cv4, cv5, cv6, cv7, cv8, cv9, cv10, cv11, cv12, .int 0, cv14, cv15])) := ab_fr_at f13 c9 (by omega)
  have fr19 : ab_fr (fun j => j = b ∨ j = b + 1) h h11 := ab_fr_tr fr10 f13
  clear c9 c5 c6 f13 fr10
  try clear h2
  replace c14 : h11[b]? = some (.inr (11, [.ref (b + 1), .int (nI (k + 1 + 1)), p2, .int 1, .int y16, p5])) := c14
  replace c15 : h11[b+1]? = some (.inl (.byte, 60000, .inl y17)) := c15
  refine ab_iconst (v := 0) d_Store_writeEvents_19 (by decide) ?_
  refine ab_istore_n (lv' := [some (.ref b), some (.ref g), some (.ref v), some (.int 0), none, none, none]) d_Store_writeEvents_20 rfl (by decide) rfl ?_
  refine ab_iload_n d_Store_writeEvents_21 rfl rfl ?_
  refine ab_aload_n d_Store_writeEvents_22 rfl rfl rfl ?_
  refine ab_get (f := 13) d_Store_writeEvents_23 c18 rfl (by decide) (k2 5 rfl rfl) rfl ?_
  refine ab_icmp_ge (tgt := 97) d_Store_writeEvents_26 (by decide) (fun q20 => ?_) (fun q20 => by exact absurd (by decide) q20)
  exact ab_vret d_Store_writeEvents_97 rfl (Nat.le_refl _) (Nat.le_refl _) (by exact ⟨rfl, _, _, c14, c15, fr19⟩)
set_option maxRecDepth 20000 in
set_option maxHeartbeats 2000000 in
theorem l_sw_s {Po : Outcome → List ab_E → Prop} {mc ms cells slots : Nat} {p1 p2 p5 : Value} {n0 n1 n2 n3 n4 n5 n6 n9 n10 n11 n12 n13 n14 n15 : Value} {x : Nat} {y : Int32}  (hcl : cells ≤ ({ frames := 2, cells := 0, slots := 0, locals := 80 } : Room).cells) (hsl : slots ≤ ({ frames := 2, cells := 0, slots := 0, locals := 80 } : Room).slots) : ∀ (n i : Nat) (h : List ab_E), i + n = 256 → h[x + 131]? = some (.inr (11, [.ref (x + 131 + 1), p1, p2, .int 0, .int (hz (5 * i) y), p5])) → h[x + 11 + 1]? = some (.inr (7, [n0, n1, n2, n3, n4, n5, n6, .ref (x + 11 + 1 + 1), .ref (x + 11 + 1 + 2), n9, n10, n11, n12, n13, n14, n15])) → h[x + 11 + 1 + 1]? = some (.inl (.int, 256, .inl (fun _ => 0))) → h[x + 11 + 1 + 2]? = some (.inl (.int, 256, .inl (a0_World 8))) → (∀ (h1 : List ab_E), h1[x + 131]? = some (.inr (11, [.ref (x + 131 + 1), p1, p2, .int 0, .int (hz (5 * 256) y), p5])) → h1[x + 11 + 1]? = some (.inr (7, [n0, n1, n2, n3, n4, n5, n6, .ref (x + 11 + 1 + 1), .ref (x + 11 + 1 + 2), n9, n10, n11, n12, n13, n14, n15])) → h1[x + 11 + 1 + 1]? = some (.inl (.int, 256, .inl (fun _ => 0))) → h1[x + 11 + 1 + 2]? = some (.inl (.int, 256, .inl (a0_World 8))) → ab_fr (fun j => j = x+131) h h1 → ab_V y_Store_write { frames := 2, cells := 0, slots := 0, locals := 80 } Po mc ms cells slots 154 [some (.ref (x + 131)), some (.ref (x + 133)), some (.ref (x + 11 + 1)), some (.int 0), some (.int (nI 256))] [] h1) →
    ab_V y_Store_write { frames := 2, cells := 0, slots := 0, locals := 80 } Po mc ms cells slots 89 [some (.ref (x + 131)), some (.ref (x + 133)), some (.ref (x + 11 + 1)), some (.int 0), some (.int (nI i))] [] h := by
  intro n
  induction n with
  | zero =>
    intro i h  hi po no ea ra hk
    refine ab_iload d_Store_write_89 rfl ?_
    refine ab_sipush (v := 256) d_Store_write_91 (by decide) ?_
    refine ab_icmp_ge (tgt := 154) d_Store_write_94 (by decide) (fun q1 => ?_) (fun q1 => ?_)
    · have hiN : i = 256 := (by omega)
      subst hiN
      exact hk h  po no ea ra (ab_fr_rf _ _)
    · exact absurd (nI_le (a := 256) (b := i) (by omega) (by omega)) q1
  | succ n ih =>
    intro i h  hi po no ea ra hk
    refine ab_iload d_Store_write_89 rfl ?_
    refine ab_sipush (v := 256) d_Store_write_91 (by decide) ?_
    refine ab_icmp_ge (tgt := 154) d_Store_write_94 (by decide) (fun q1 => ?_) (fun q1 => ?_)
    · exact absurd ((nI_leI (a := 256) (b := i) (by omega) (by omega)).mp q1) (by omega)
    · refine ab_aload_n d_Store_write_97 rfl rfl rfl ?_
      refine ab_aload_n d_Store_write_98 rfl rfl rfl ?_
      refine ab_get (f := 7) d_Store_write_99 no rfl (by decide) (k1 228 rfl rfl) rfl ?_
      refine ab_iload d_Store_write_102 rfl ?_
      refine ab_iald d_Store_write_104 tI ea (vp_in_nI (by omega) (by decide)) ?_
      refine ab_topi (fun x2 ex2 => ?_)
      obtain rfl : x2 = 0 := ex2.trans rfl
      clear ex2
      refine ab_callV_v (As := [.int 0]) (rest := []) d_Store_write_105 (r_wi_s po) (ab_mkC s_Store_writeInt (Nat.le_of_ble_eq_true rfl) (Nat.le_of_ble_eq_true rfl) (by first | exact hcl | (show _ ≤ _; omega)) (by first | exact hsl | (show _ ≤ _; omega))) (k8 9 rfl rfl) i_Store_writeInt v_Store_writeInt po rfl rfl (Nat.le_of_ble_eq_true rfl) (fun h3 q4 => ?_)
      obtain ⟨c6, f5⟩ := q4
      have c7 : h3[x+11+1]? = some (.inr (7, [n0, n1, n2, n3, n4, n5, n6, .ref (x + 11 + 1 + 1), .ref (x + 11 + 1 + 2), n9, n10, n11, n12, n13, n14, n15])) := ab_fr_at f5 no (by omega)
      have c8 : h3[x+11+1+1]? = some (.inl (.int, 256, .inl (fun _ => 0))) := ab_fr_at f5 ea (by omega)
      have c9 : h3[x+11+1+2]? = some (.inl (.int, 256, .inl (a0_World 8))) := ab_fr_at f5 ra (by omega)
      have fr10 : ab_fr (fun j => j = x+131) h h3 := ab_fr_tr (ab_fr_rf _ _) f5
      clear f5
      replace c6 : h3[x+131]? = some (.inr (11, [.ref (x + 131 + 1), p1, p2, .int 0, .int (hz 4 (hz (5 * i) y)), p5])) := c6
      refine ab_aload_n d_Store_write_108 rfl rfl rfl ?_
      refine ab_aload_n d_Store_write_109 rfl rfl rfl ?_
      refine ab_get (f := 8) d_Store_write_110 c7 rfl (by decide) (k1 230 rfl rfl) rfl ?_
      refine ab_iload d_Store_write_113 rfl ?_
      refine ab_iald d_Store_write_115 tI c9 (vp_in_nI (by omega) (by decide)) ?_
      refine ab_topi (fun x11 ex11 => ?_)
      obtain rfl : x11 = (-1) := ex11.trans (a0W8 (vp_in_nI (by omega) (by decide)))
      clear ex11
      refine ab_if_lt (tgt := 123) d_Store_write_116 (by decide) (fun q12 => ?_) (fun q12 => by exact absurd (by decide) q12)
      refine ab_iconst (v := 0) d_Store_write_123 (by decide) ?_
      refine ab_callV_v (As := [.int 0]) (rest := []) d_Store_write_124 (r_wb_s0 c6) (ab_mkC s_Store_writeByte (Nat.le_of_ble_eq_true rfl) (Nat.le_of_ble_eq_true rfl) (by first | exact hcl | (show _ ≤ _; omega)) (by first | exact hsl | (show _ ≤ _; omega))) (k8 0 rfl rfl) i_Store_writeByte v_Store_writeByte c6 rfl rfl (Nat.le_of_ble_eq_true rfl) (fun h13 q14 => ?_)
      obtain ⟨c16, f15⟩ := q14
      have c17 : h13[x+11+1]? = some (.inr (7, [n0, n1, n2, n3, n4, n5, n6, .ref (x + 11 + 1 + 1), .ref (x + 11 + 1 + 2), n9, n10, n11, n12, n13, n14, n15])) := ab_fr_at f15 c7 (by omega)
      have c18 : h13[x+11+1+1]? = some (.inl (.int, 256, .inl (fun _ => 0))) := ab_fr_at f15 c8 (by omega)
      have c19 : h13[x+11+1+2]? = some (.inl (.int, 256, .inl (a0_World 8))) := ab_fr_at f15 c9 (by omega)
      have fr20 : ab_fr (fun j => j = x+131) h h13 := ab_fr_tr fr10 f15
      clear c7 c8 c9 c6 f15 fr10
      try clear h3
      replace c16 : h13[x+131]? = some (.inr (11, [.ref (x + 131 + 1), p1, p2, .int 0, .int (hz 1 (hz 4 (hz (5 * i) y))), p5])) := c16
      refine ab_aload_n d_Store_write_127 rfl rfl rfl ?_
      refine ab_get (f := 8) d_Store_write_128 c17 rfl (by decide) (k1 230 rfl rfl) rfl ?_
      refine ab_iload d_Store_write_131 rfl ?_
      refine ab_iald d_Store_write_133 tI c19 (vp_in_nI (by omega) (by decide)) ?_
      refine ab_topi (fun x21 ex21 => ?_)
      obtain rfl : x21 = (-1) := ex21.trans (a0W8 (vp_in_nI (by omega) (by decide)))
      clear ex21
      refine ab_if_lt (tgt := 148) d_Store_write_134 (by decide) (fun q22 => ?_) (fun q22 => by exact absurd (by decide) q22)
      obtain ⟨x23, ex23⟩ : ∃ q : Int32, q = nI i + 1 := ⟨_, rfl⟩
      refine ab_iinc (v := x23) (lv' := [some (.ref (x + 131)), some (.ref (x + 133)), some (.ref (x + 11 + 1)), some (.int 0), some (.int x23)]) d_Store_write_148 rfl (by rw [ex23]; rfl) (by decide) rfl ?_
      refine ab_goto (tgt := 89) d_Store_write_151 (by decide) ?_
      subst ex23
      rw [nI_1]
      refine ab_widen (cells' := cells) (slots' := slots) (by first | exact Nat.le_refl _ | (show _ ≤ _; omega)) (by first | exact Nat.le_refl _ | (show _ ≤ _; omega)) ?_
      exact ih (i + 1) h13  (by omega) (by have z := c16; rw [hz_add, hz_add] at z; exact z) c17 c18 c19 (fun h1  q0 q1 q2 q3 qf => hk h1  q0 q1 q2 q3 (ab_fr_tr fr20 qf))
set_option maxRecDepth 20000 in
set_option maxHeartbeats 2000000 in
theorem l_sw_k {Po : Outcome → List ab_E → Prop} {mc ms cells slots : Nat} {p2 p5 : Value} {n0 n1 n2 n3 n4 n5 n6 n9 n10 n11 n12 n13 n14 n15 : Value} {x : Nat}  (hcl : cells ≤ ({ frames := 2, cells := 0, slots := 0, locals := 80 } : Room).cells) (hsl : slots ≤ ({ frames := 2, cells := 0, slots := 0, locals := 80 } : Room).slots) : ∀ (n i : Nat) (h : List ab_E) (qf : Nat → Int32) (hh : Int32), i + n = 256 → h[x + 131]? = some (.inr (11, [.ref (x + 131 + 1), .int (nI (20 + 5 * i)), p2, .int 1, .int hh, p5])) → h[x + 131 + 1]? = some (.inl (.byte, 60000, .inl qf)) → h[x + 11 + 1]? = some (.inr (7, [n0, n1, n2, n3, n4, n5, n6, .ref (x + 11 + 1 + 1), .ref (x + 11 + 1 + 2), n9, n10, n11, n12, n13, n14, n15])) → h[x + 11 + 1 + 1]? = some (.inl (.int, 256, .inl (fun _ => 0))) → h[x + 11 + 1 + 2]? = some (.inl (.int, 256, .inl (a0_World 8))) → (∀ (h1 : List ab_E) (qf1 : Nat → Int32) (hh1 : Int32), h1[x + 131]? = some (.inr (11, [.ref (x + 131 + 1), .int (nI (20 + 5 * 256)), p2, .int 1, .int hh1, p5])) → h1[x + 131 + 1]? = some (.inl (.byte, 60000, .inl qf1)) → h1[x + 11 + 1]? = some (.inr (7, [n0, n1, n2, n3, n4, n5, n6, .ref (x + 11 + 1 + 1), .ref (x + 11 + 1 + 2), n9, n10, n11, n12, n13, n14, n15])) → h1[x + 11 + 1 + 1]? = some (.inl (.int, 256, .inl (fun _ => 0))) → h1[x + 11 + 1 + 2]? = some (.inl (.int, 256, .inl (a0_World 8))) → ab_fr (fun j => j = x+131 ∨ j = x+131+1) h h1 → ab_V y_Store_write { frames := 2, cells := 0, slots := 0, locals := 80 } Po mc ms cells slots 154 [some (.ref (x + 131)), some (.ref (x + 133)), some (.ref (x + 11 + 1)), some (.int 1), some (.int (nI 256))] [] h1) →
    ab_V y_Store_write { frames := 2, cells := 0, slots := 0, locals := 80 } Po mc ms cells slots 89 [some (.ref (x + 131)), some (.ref (x + 133)), some (.ref (x + 11 + 1)), some (.int 1), some (.int (nI i))] [] h := by
  intro n
  induction n with
  | zero =>
    intro i h qf hh hi po qa no ea ra hk
    refine ab_iload d_Store_write_89 rfl ?_
    refine ab_sipush (v := 256) d_Store_write_91 (by decide) ?_
    refine ab_icmp_ge (tgt := 154) d_Store_write_94 (by decide) (fun q1 => ?_) (fun q1 => ?_)
    · have hiN : i = 256 := (by omega)
      subst hiN
      exact hk h qf hh po qa no ea ra (ab_fr_rf _ _)
    · exact absurd (nI_le (a := 256) (b := i) (by omega) (by omega)) q1
  | succ n ih =>
    intro i h qf hh hi po qa no ea ra hk
    refine ab_iload d_Store_write_89 rfl ?_
    refine ab_sipush (v := 256) d_Store_write_91 (by decide) ?_
    refine ab_icmp_ge (tgt := 154) d_Store_write_94 (by decide) (fun q1 => ?_) (fun q1 => ?_)
    · exact absurd ((nI_leI (a := 256) (b := i) (by omega) (by omega)).mp q1) (by omega)
    · refine ab_aload_n d_Store_write_97 rfl rfl rfl ?_
      refine ab_aload_n d_Store_write_98 rfl rfl rfl ?_
      refine ab_get (f := 7) d_Store_write_99 no rfl (by decide) (k1 228 rfl rfl) rfl ?_
      refine ab_iload d_Store_write_102 rfl ?_
      refine ab_iald d_Store_write_104 tI ea (vp_in_nI (by omega) (by decide)) ?_
      refine ab_topi (fun x2 ex2 => ?_)
      obtain rfl : x2 = 0 := ex2.trans rfl
      clear ex2
      refine ab_callV_v (As := [.int 0]) (rest := []) d_Store_write_105 (r_wi_k (k := 20 + 5 * i) po qa (by omega)) (ab_mkC s_Store_writeInt (Nat.le_of_ble_eq_true rfl) (Nat.le_of_ble_eq_true rfl) (by first | exact hcl | (show _ ≤ _; omega)) (by first | exact hsl | (show _ ≤ _; omega))) (k8 9 rfl rfl) i_Store_writeInt v_Store_writeInt po rfl rfl (Nat.le_of_ble_eq_true rfl) (fun h3 q4 => ?_)
      obtain ⟨y8, y9, c6, c7, f5⟩ := q4
      have c10 : h3[x+11+1]? = some (.inr (7, [n0, n1, n2, n3, n4, n5, n6, .ref (x + 11 + 1 + 1), .ref (x + 11 + 1 + 2), n9, n10, n11, n12, n13, n14, n15])) := ab_fr_at f5 no (by omega)
      have c11 : h3[x+11+1+1]? = some (.inl (.int, 256, .inl (fun _ => 0))) := ab_fr_at f5 ea (by omega)
      have c12 : h3[x+11+1+2]? = some (.inl (.int, 256, .inl (a0_World 8))) := ab_fr_at f5 ra (by omega)
      have fr13 : ab_fr (fun j => j = x+131 ∨ j = x+131+1) h h3 := ab_fr_tr (ab_fr_rf _ _) f5
      clear f5
      replace c6 : h3[x+131]? = some (.inr (11, [.ref (x + 131 + 1), .int (nI (20 + 5 * i + 4)), p2, .int 1, .int y8, p5])) := c6
      replace c7 : h3[x+131+1]? = some (.inl (.byte, 60000, .inl y9)) := c7
      refine ab_aload_n d_Store_write_108 rfl rfl rfl ?_
      refine ab_aload_n d_Store_write_109 rfl rfl rfl ?_
      refine ab_get (f := 8) d_Store_write_110 c10 rfl (by decide) (k1 230 rfl rfl) rfl ?_
      refine ab_iload d_Store_write_113 rfl ?_
      refine ab_iald d_Store_write_115 tI c12 (vp_in_nI (by omega) (by decide)) ?_
      refine ab_topi (fun x14 ex14 => ?_)
      obtain rfl : x14 = (-1) := ex14.trans (a0W8 (vp_in_nI (by omega) (by decide)))
      clear ex14
      refine ab_if_lt (tgt := 123) d_Store_write_116 (by decide) (fun q15 => ?_) (fun q15 => by exact absurd (by decide) q15)
      refine ab_iconst (v := 0) d_Store_write_123 (by decide) ?_
      refine ab_callV_v (As := [.int 0]) (rest := []) d_Store_write_124 (r_wb_k0 (k := 20 + 5 * i + 4) c6 c7 (by omega)) (ab_mkC s_Store_writeByte (Nat.le_of_ble_eq_true rfl) (Nat.le_of_ble_eq_true rfl) (by first | exact hcl | (show _ ≤ _; omega)) (by first | exact hsl | (show _ ≤ _; omega))) (k8 0 rfl rfl) i_Store_writeByte v_Store_writeByte c6 rfl rfl (Nat.le_of_ble_eq_true rfl) (fun h16 q17 => ?_)
      obtain ⟨y21, y22, c19, c20, f18⟩ := q17
      have c23 : h16[x+11+1]? = some (.inr (7, [n0, n1, n2, n3, n4, n5, n6, .ref (x + 11 + 1 + 1), .ref (x + 11 + 1 + 2), n9, n10, n11, n12, n13, n14, n15])) := ab_fr_at f18 c10 (by omega)
      have c24 : h16[x+11+1+1]? = some (.inl (.int, 256, .inl (fun _ => 0))) := ab_fr_at f18 c11 (by omega)
      have c25 : h16[x+11+1+2]? = some (.inl (.int, 256, .inl (a0_World 8))) := ab_fr_at f18 c12 (by omega)
      have fr26 : ab_fr (fun j => j = x+131 ∨ j = x+131+1) h h16 := ab_fr_tr fr13 f18
      clear c10 c11 c12 c6 c7 f18 fr13
      try clear h3
      replace c19 : h16[x+131]? = some (.inr (11, [.ref (x + 131 + 1), .int (nI (20 + 5 * i + 4 + 1)), p2, .int 1, .int y21, p5])) := c19
      replace c20 : h16[x+131+1]? = some (.inl (.byte, 60000, .inl y22)) := c20
      refine ab_aload_n d_Store_write_127 rfl rfl rfl ?_
      refine ab_get (f := 8) d_Store_write_128 c23 rfl (by decide) (k1 230 rfl rfl) rfl ?_
      refine ab_iload d_Store_write_131 rfl ?_
      refine ab_iald d_Store_write_133 tI c25 (vp_in_nI (by omega) (by decide)) ?_
      refine ab_topi (fun x27 ex27 => ?_)
      obtain rfl : x27 = (-1) := ex27.trans (a0W8 (vp_in_nI (by omega) (by decide)))
      clear ex27
      refine ab_if_lt (tgt := 148) d_Store_write_134 (by decide) (fun q28 => ?_) (fun q28 => by exact absurd (by decide) q28)
      obtain ⟨x29, ex29⟩ : ∃ q : Int32, q = nI i + 1 := ⟨_, rfl⟩
      refine ab_iinc (v := x29) (lv' := [some (.ref (x + 131)), some (.ref (x + 133)), some (.ref (x + 11 + 1)), some (.int 1), some (.int x29)]) d_Store_write_148 rfl (by rw [ex29]; rfl) (by decide) rfl ?_
      refine ab_goto (tgt := 89) d_Store_write_151 (by decide) ?_
      subst ex29
      rw [nI_1]
      refine ab_widen (cells' := cells) (slots' := slots) (by first | exact Nat.le_refl _ | (show _ ≤ _; omega)) (by first | exact Nat.le_refl _ | (show _ ≤ _; omega)) ?_
      exact ih (i + 1) h16 y22 y21 (by omega) (by have z := c19; rw [show 20 + 5 * i + 4 + 1 = 20 + 5 * (i + 1) by omega] at z; exact z) c20 c23 c24 c25 (fun h1 qf1 hh1 q0 q1 q2 q3 q4 qf => hk h1 qf1 hh1 q0 q1 q2 q3 q4 (ab_fr_tr fr26 qf))
