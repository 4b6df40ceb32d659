set_option maxRecDepth 20000 in
set_option maxHeartbeats 2000000 in
theorem r_MText_letter {h : List ab_E}  {t : Nat}  (po : h[t]? = some (.inr (14, [.ref (t + 1), .int 0, .int 0, .ref (t + 2), .ref (t + 3), .ref (t + 4), .ref (t + 5), .ref (t + 6), .ref (t + 7), .int 0, .int 0, .int 0, .int 0, .ref (t + 8), .ref (t + 9), .ref (t + 10), .int 0, .ref (t + 11), .ref (t + 12), .ref (t + 13), .ref (t + 14), .int 0, .ref (t + 15), .ref (t + 16), .ref (t + 17), .ref (t + 18), .int 0, .ref (t + 19), .ref (t + 20), .int 0, .ref (t + 21), .ref (t + 22), .ref (t + 23), .ref (t + 24), .ref (t + 25), .ref (t + 26), .ref (t + 27), .int 0, .ref (t + 28), .ref (t + 29), .ref (t + 30), .int 0, .int 0])))  : ab_M y_MText_letter { frames := 0, cells := 0, slots := 0, locals := 0 } [.ref t, .int 0] h (ab_A (some (.int (0))) (fun h1 => h = h1)) := by
  refine ab_of2 (lv := [some (.ref t), some (.int 0)]) 0 rfl rfl (Nat.le_of_ble_eq_true rfl) ?_
  refine ab_iload_n d_MText_letter_0 rfl rfl ?_
  refine ab_aload_n d_MText_letter_1 rfl rfl rfl ?_
  refine ab_get (f := 1) d_MText_letter_2 po rfl (by decide) (k8 160 rfl rfl) rfl ?_
  refine ab_icmp_ge (tgt := 17) d_MText_letter_5 (by decide) (fun q1 => ?_) (fun q1 => by exact absurd (by decide) q1)
  refine ab_iconst (v := 0) d_MText_letter_17 (by decide) ?_
  exact ab_iret d_MText_letter_18 rfl (Nat.le_refl _) (Nat.le_refl _) (by exact ⟨rfl, rfl⟩)
set_option maxRecDepth 20000 in
set_option maxHeartbeats 2000000 in
theorem r_MText_skips {h : List ab_E}  {t : Nat}  (po : h[t]? = some (.inr (14, [.ref (t + 1), .int 0, .int 0, .ref (t + 2), .ref (t + 3), .ref (t + 4), .ref (t + 5), .ref (t + 6), .ref (t + 7), .int 0, .int 0, .int 0, .int 0, .ref (t + 8), .ref (t + 9), .ref (t + 10), .int 0, .ref (t + 11), .ref (t + 12), .ref (t + 13), .ref (t + 14), .int 0, .ref (t + 15), .ref (t + 16), .ref (t + 17), .ref (t + 18), .int 0, .ref (t + 19), .ref (t + 20), .int 0, .ref (t + 21), .ref (t + 22), .ref (t + 23), .ref (t + 24), .ref (t + 25), .ref (t + 26), .ref (t + 27), .int 0, .ref (t + 28), .ref (t + 29), .ref (t + 30), .int 0, .int 0])))  : ab_M y_MText_skips { frames := 0, cells := 0, slots := 0, locals := 0 } [.ref t, .int 0] h (ab_A (some (.int (0))) (fun h1 => h = h1)) := by
  refine ab_of2 (lv := [some (.ref t), some (.int 0), none, none, none]) 3 rfl rfl (Nat.le_of_ble_eq_true rfl) ?_
  refine ab_iload_n d_MText_skips_0 rfl rfl ?_
  refine ab_istore_n (lv' := [some (.ref t), some (.int 0), some (.int 0), none, none]) d_MText_skips_1 rfl (by decide) rfl ?_
  refine ab_iconst (v := 1) d_MText_skips_2 (by decide) ?_
  refine ab_istore_n (lv' := [some (.ref t), some (.int 0), some (.int 0), some (.int 1), none]) d_MText_skips_3 rfl (by decide) rfl ?_
  refine ab_iload_n d_MText_skips_4 rfl rfl ?_
  refine ab_if_eq (tgt := 105) d_MText_skips_5 (by decide) (fun q1 => by exact absurd q1 (by decide)) (fun q1 => ?_)
  refine ab_iload_n d_MText_skips_8 rfl rfl ?_
  refine ab_aload_n d_MText_skips_9 rfl rfl rfl ?_
  refine ab_get (f := 1) d_MText_skips_10 po rfl (by decide) (k8 160 rfl rfl) rfl ?_
  refine ab_icmp_ge (tgt := 105) d_MText_skips_13 (by decide) (fun q2 => ?_) (fun q2 => by exact absurd (by decide) q2)
  refine ab_iload_n d_MText_skips_105 rfl rfl ?_
  exact ab_iret d_MText_skips_106 rfl (Nat.le_refl _) (Nat.le_refl _) (by exact ⟨rfl, rfl⟩)
set_option maxRecDepth 20000 in
set_option maxHeartbeats 2000000 in
theorem r_MText_token {h : List ab_E}  {q4f : Nat → Int32} {q5f : Nat → Int32} {q7f : Nat → Int32} {q8f : Nat → Int32} {t : Nat}  (po : h[t]? = some (.inr (14, [.ref (t + 1), .int 0, .int 0, .ref (t + 2), .ref (t + 3), .ref (t + 4), .ref (t + 5), .ref (t + 6), .ref (t + 7), .int 0, .int 0, .int 0, .int 0, .ref (t + 8), .ref (t + 9), .ref (t + 10), .int 0, .ref (t + 11), .ref (t + 12), .ref (t + 13), .ref (t + 14), .int 0, .ref (t + 15), .ref (t + 16), .ref (t + 17), .ref (t + 18), .int 0, .ref (t + 19), .ref (t + 20), .int 0, .ref (t + 21), .ref (t + 22), .ref (t + 23), .ref (t + 24), .ref (t + 25), .ref (t + 26), .ref (t + 27), .int 0, .ref (t + 28), .ref (t + 29), .ref (t + 30), .int 0, .int 0]))) (q3a : h[t + 2]? = some (.inl (.int, 6002, .inl (fun _ => 0)))) (q4a : h[t + 3]? = some (.inl (.int, 6002, .inl q4f))) (q5a : h[t + 4]? = some (.inl (.int, 6002, .inl q5f))) (q7a : h[t + 6]? = some (.inl (.boolean, 6002, .inl q7f))) (q8a : h[t + 7]? = some (.inl (.int, 6002, .inl q8f)))  : ab_M y_MText_token { frames := 0, cells := 0, slots := 0, locals := 0 } [.ref t, .int 0, .int 0, .int 0] h (ab_A none (fun h1 => h1[t]? = some (.inr (14, [.ref (t + 1), .int 0, .int 1, .ref (t + 2), .ref (t + 3), .ref (t + 4), .ref (t + 5), .ref (t + 6), .ref (t + 7), .int 0, .int 0, .int 0, .int 0, .ref (t + 8), .ref (t + 9), .ref (t + 10), .int 0, .ref (t + 11), .ref (t + 12), .ref (t + 13), .ref (t + 14), .int 0, .ref (t + 15), .ref (t + 16), .ref (t + 17), .ref (t + 18), .int 0, .ref (t + 19), .ref (t + 20), .int 0, .ref (t + 21), .ref (t + 22), .ref (t + 23), .ref (t + 24), .ref (t + 25), .ref (t + 26), .ref (t + 27), .int 0, .ref (t + 28), .ref (t + 29), .ref (t + 30), .int 0, .int 0])) ∧ h1[t+2]? = some (.inl (.int, 6002, .inl (fun _ => 0))) ∧ ab_fr (fun j => j = t ∨ j = t+2 ∨ j = t+3 ∨ j = t+4 ∨ j = t+6 ∨ j = t+7) h h1)) := by
  refine ab_of2 (lv := [some (.ref t), some (.int 0), some (.int 0), some (.int 0)]) 0 rfl rfl (Nat.le_of_ble_eq_true rfl) ?_
  refine ab_aload_n d_MText_token_0 rfl rfl rfl ?_
  refine ab_get (f := 3) d_MText_token_1 po rfl (by decide) (k8 162 rfl rfl) rfl ?_
  refine ab_aload_n d_MText_token_4 rfl rfl rfl ?_
  refine ab_get (f := 2) d_MText_token_5 po rfl (by decide) (k8 161 rfl rfl) rfl ?_
  refine ab_iload_n d_MText_token_8 rfl rfl ?_
  refine ab_iast d_MText_token_9 tI q3a (in_of (by decide) (by decide) (by decide)) ?_
  refine ab_gen (fun h1 e2 => ?_)
  have c3 : h1[t]? = some (.inr (14, [.ref (t + 1), .int 0, .int 0, .ref (t + 2), .ref (t + 3), .ref (t + 4), .ref (t + 5), .ref (t + 6), .ref (t + 7), .int 0, .int 0, .int 0, .int 0, .ref (t + 8), .ref (t + 9), .ref (t + 10), .int 0, .ref (t + 11), .ref (t + 12), .ref (t + 13), .ref (t + 14), .int 0, .ref (t + 15), .ref (t + 16), .ref (t + 17), .ref (t + 18), .int 0, .ref (t + 19), .ref (t + 20), .int 0, .ref (t + 21), .ref (t + 22), .ref (t + 23), .ref (t + 24), .ref (t + 25), .ref (t + 26), .ref (t + 27), .int 0, .ref (t + 28), .ref (t + 29), .ref (t + 30), .int 0, .int 0])) := ab_other e2 (by omega) po
  have c4 : h1[t+2]? = some (.inl (.int, 6002, .inl (upd (fun _ => 0) (0 : Int32).toNatClampNeg 0))) := ab_self e2 q3a
  have c5 : h1[t+3]? = some (.inl (.int, 6002, .inl q4f)) := ab_other e2 (by omega) q4a
  have c6 : h1[t+4]? = some (.inl (.int, 6002, .inl q5f)) := ab_other e2 (by omega) q5a
  have c7 : h1[t+6]? = some (.inl (.boolean, 6002, .inl q7f)) := ab_other e2 (by omega) q7a
  have c8 : h1[t+7]? = some (.inl (.int, 6002, .inl q8f)) := ab_other e2 (by omega) q8a
  have fr9 : ab_fr (fun j => j = t ∨ j = t+2 ∨ j = t+3 ∨ j = t+4 ∨ j = t+6 ∨ j = t+7) h h1 := ab_fr_set (ab_fr_rf _ _) e2 (by first | (show _ ∧ _; omega) | (show _ ∨ _; omega) | (show _ = _; omega) | (show _ ≤ _; omega))
  clear e2
  refine ab_aload_n d_MText_token_10 rfl rfl rfl ?_
  refine ab_get (f := 4) d_MText_token_11 c3 rfl (by decide) (k8 164 rfl rfl) rfl ?_
  refine ab_aload_n d_MText_token_14 rfl rfl rfl ?_
  refine ab_get (f := 2) d_MText_token_15 c3 rfl (by decide) (k8 161 rfl rfl) rfl ?_
  refine ab_iload_n d_MText_token_18 rfl rfl ?_
  refine ab_iast d_MText_token_19 tI c5 (in_of (by decide) (by decide) (by decide)) ?_
  refine ab_gen (fun h10 e11 => ?_)
  have c12 : h10[t]? = some (.inr (14, [.ref (t + 1), .int 0, .int 0, .ref (t + 2), .ref (t + 3), .ref (t + 4), .ref (t + 5), .ref (t + 6), .ref (t + 7), .int 0, .int 0, .int 0, .int 0, .ref (t + 8), .ref (t + 9), .ref (t + 10), .int 0, .ref (t + 11), .ref (t + 12), .ref (t + 13), .ref (t + 14), .int 0, .ref (t + 15), .ref (t + 16), .ref (t + 17), .ref (t + 18), .int 0, .ref (t + 19), .ref (t + 20), .int 0, .ref (t + 21), .ref (t + 22), .ref (t + 23), .ref (t + 24), .ref (t + 25), .ref (t + 26), .ref (t + 27), .int 0, .ref (t + 28), .ref (t + 29), .ref (t + 30), .int 0, .int 0])) := ab_other e11 (by omega) c3
  have c13 : h10[t+2]? = some (.inl (.int, 6002, .inl (upd (fun _ => 0) (0 : Int32).toNatClampNeg 0))) := ab_other e11 (by omega) c4
  have c14 : h10[t+3]? = some (.inl (.int, 6002, .inl (upd q4f (0 : Int32).toNatClampNeg 0))) := ab_self e11 c5
  have c15 : h10[t+4]? = some (.inl (.int, 6002, .inl q5f)) := ab_other e11 (by omega) c6
  have c16 : h10[t+6]? = some (.inl (.boolean, 6002, .inl q7f)) := ab_other e11 (by omega) c7
  have c17 : h10[t+7]? = some (.inl (.int, 6002, .inl q8f)) := ab_other e11 (by omega) c8
  have fr18 : ab_fr (fun j => j = t ∨ j = t+2 ∨ j = t+3 ∨ j = t+4 ∨ j = t+6 ∨ j = t+7) h h10 := ab_fr_set fr9 e11 (by first | (show _ ∧ _; omega) | (show _ ∨ _; omega) | (show _ = _; omega) | (show _ ≤ _; omega))
  clear c3 c4 c5 c6 c7 c8 fr9 e11
  try clear h1
  refine ab_aload_n d_MText_token_20 rfl rfl rfl ?_
  refine ab_get (f := 5) d_MText_token_21 c12 rfl (by decide) (k8 165 rfl rfl) rfl ?_
  refine ab_aload_n d_MText_token_24 rfl rfl rfl ?_
  refine ab_get (f := 2) d_MText_token_25 c12 rfl (by decide) (k8 161 rfl rfl) rfl ?_
  refine ab_iload_n d_MText_token_28 rfl rfl ?_
  refine ab_iload_n d_MText_token_29 rfl rfl ?_
  refine ab_isub d_MText_token_30 ?_
  refine ab_topi (fun x19 ex19 => ?_)
  obtain rfl : x19 = 0 := ex19.trans (by decide)
  clear ex19
  refine ab_iast d_MText_token_31 tI c15 (in_of (by decide) (by decide) (by decide)) ?_
  refine ab_gen (fun h20 e21 => ?_)
  have c22 : h20[t]? = some (.inr (14, [.ref (t + 1), .int 0, .int 0, .ref (t + 2), .ref (t + 3), .ref (t + 4), .ref (t + 5), .ref (t + 6), .ref (t + 7), .int 0, .int 0, .int 0, .int 0, .ref (t + 8), .ref (t + 9), .ref (t + 10), .int 0, .ref (t + 11), .ref (t + 12), .ref (t + 13), .ref (t + 14), .int 0, .ref (t + 15), .ref (t + 16), .ref (t + 17), .ref (t + 18), .int 0, .ref (t + 19), .ref (t + 20), .int 0, .ref (t + 21), .ref (t + 22), .ref (t + 23), .ref (t + 24), .ref (t + 25), .ref (t + 26), .ref (t + 27), .int 0, .ref (t + 28), .ref (t + 29), .ref (t + 30), .int 0, .int 0])) := ab_other e21 (by omega) c12
  have c23 : h20[t+2]? = some (.inl (.int, 6002, .inl (upd (fun _ => 0) (0 : Int32).toNatClampNeg 0))) := ab_other e21 (by omega) c13
  have c24 : h20[t+3]? = some (.inl (.int, 6002, .inl (upd q4f (0 : Int32).toNatClampNeg 0))) := ab_other e21 (by omega) c14
  have c25 : h20[t+4]? = some (.inl (.int, 6002, .inl (upd q5f (0 : Int32).toNatClampNeg 0))) := ab_self e21 c15
  have c26 : h20[t+6]? = some (.inl (.boolean, 6002, .inl q7f)) := ab_other e21 (by omega) c16
  have c27 : h20[t+7]? = some (.inl (.int, 6002, .inl q8f)) := ab_other e21 (by omega) c17
  have fr28 : ab_fr (fun j => j = t ∨ j = t+2 ∨ j = t+3 ∨ j = t+4 ∨ j = t+6 ∨ j = t+7) h h20 := ab_fr_set fr18 e21 (by first | (show _ ∧ _; omega) | (show _ ∨ _; omega) | (show _ = _; omega) | (show _ ≤ _; omega))
  clear c12 c13 c14 c15 c16 c17 fr18 e21
  try clear h10
  refine ab_aload_n d_MText_token_32 rfl rfl rfl ?_
  refine ab_get (f := 7) d_MText_token_33 c22 rfl (by decide) (k8 168 rfl rfl) rfl ?_
  refine ab_aload_n d_MText_token_36 rfl rfl rfl ?_
  refine ab_get (f := 2) d_MText_token_37 c22 rfl (by decide) (k8 161 rfl rfl) rfl ?_
  refine ab_iconst (v := 0) d_MText_token_40 (by decide) ?_
  refine ab_zast d_MText_token_41 tZ c26 (in_of (by decide) (by decide) (by decide)) ?_
  refine ab_gen (fun h29 e30 => ?_)
  have c31 : h29[t]? = some (.inr (14, [.ref (t + 1), .int 0, .int 0, .ref (t + 2), .ref (t + 3), .ref (t + 4), .ref (t + 5), .ref (t + 6), .ref (t + 7), .int 0, .int 0, .int 0, .int 0, .ref (t + 8), .ref (t + 9), .ref (t + 10), .int 0, .ref (t + 11), .ref (t + 12), .ref (t + 13), .ref (t + 14), .int 0, .ref (t + 15), .ref (t + 16), .ref (t + 17), .ref (t + 18), .int 0, .ref (t + 19), .ref (t + 20), .int 0, .ref (t + 21), .ref (t + 22), .ref (t + 23), .ref (t + 24), .ref (t + 25), .ref (t + 26), .ref (t + 27), .int 0, .ref (t + 28), .ref (t + 29), .ref (t + 30), .int 0, .int 0])) := ab_other e30 (by omega) c22
  have c32 : h29[t+2]? = some (.inl (.int, 6002, .inl (upd (fun _ => 0) (0 : Int32).toNatClampNeg 0))) := ab_other e30 (by omega) c23
  have c33 : h29[t+3]? = some (.inl (.int, 6002, .inl (upd q4f (0 : Int32).toNatClampNeg 0))) := ab_other e30 (by omega) c24
  have c34 : h29[t+4]? = some (.inl (.int, 6002, .inl (upd q5f (0 : Int32).toNatClampNeg 0))) := ab_other e30 (by omega) c25
  have c35 : h29[t+6]? = some (.inl (.boolean, 6002, .inl (upd q7f (0 : Int32).toNatClampNeg (vp_nar .boolean 0)))) := ab_self e30 c26
  have c36 : h29[t+7]? = some (.inl (.int, 6002, .inl q8f)) := ab_other e30 (by omega) c27
  have fr37 : ab_fr (fun j => j = t ∨ j = t+2 ∨ j = t+3 ∨ j = t+4 ∨ j = t+6 ∨ j = t+7) h h29 := ab_fr_set fr28 e30 (by first | (show _ ∧ _; omega) | (show _ ∨ _; omega) | (show _ = _; omega) | (show _ ≤ _; omega))
  clear c22 c23 c24 c25 c26 c27 fr28 e30
  try clear h20
  refine ab_aload_n d_MText_token_42 rfl rfl rfl ?_
  refine ab_get (f := 8) d_MText_token_43 c31 rfl (by decide) (k8 169 rfl rfl) rfl ?_
  refine ab_aload_n d_MText_token_46 rfl rfl rfl ?_
  refine ab_get (f := 2) d_MText_token_47 c31 rfl (by decide) (k8 161 rfl rfl) rfl ?_
  refine ab_iconst (v := (-1)) d_MText_token_50 (by decide) ?_
  refine ab_iast d_MText_token_51 tI c36 (in_of (by decide) (by decide) (by decide)) ?_
  refine ab_gen (fun h38 e39 => ?_)
  have c40 : h38[t]? = some (.inr (14, [.ref (t + 1), .int 0, .int 0, .ref (t + 2), .ref (t + 3), .ref (t + 4), .ref (t + 5), .ref (t + 6), .ref (t + 7), .int 0, .int 0, .int 0, .int 0, .ref (t + 8), .ref (t + 9), .ref (t + 10), .int 0, .ref (t + 11), .ref (t + 12), .ref (t + 13), .ref (t + 14), .int 0, .ref (t + 15), .ref (t + 16), .ref (t + 17), .ref (t + 18), .int 0, .ref (t + 19), .ref (t + 20), .int 0, .ref (t + 21), .ref (t + 22), .ref (t + 23), .ref (t + 24), .ref (t + 25), .ref (t + 26), .ref (t + 27), .int 0, .ref (t + 28), .ref (t + 29), .ref (t + 30), .int 0, .int 0])) := ab_other e39 (by omega) c31
  have c41 : h38[t+2]? = some (.inl (.int, 6002, .inl (upd (fun _ => 0) (0 : Int32).toNatClampNeg 0))) := ab_other e39 (by omega) c32
  have c42 : h38[t+3]? = some (.inl (.int, 6002, .inl (upd q4f (0 : Int32).toNatClampNeg 0))) := ab_other e39 (by omega) c33
  have c43 : h38[t+4]? = some (.inl (.int, 6002, .inl (upd q5f (0 : Int32).toNatClampNeg 0))) := ab_other e39 (by omega) c34
  have c44 : h38[t+6]? = some (.inl (.boolean, 6002, .inl (upd q7f (0 : Int32).toNatClampNeg (vp_nar .boolean 0)))) := ab_other e39 (by omega) c35
  have c45 : h38[t+7]? = some (.inl (.int, 6002, .inl (upd q8f (0 : Int32).toNatClampNeg (-1)))) := ab_self e39 c36
  have fr46 : ab_fr (fun j => j = t ∨ j = t+2 ∨ j = t+3 ∨ j = t+4 ∨ j = t+6 ∨ j = t+7) h h38 := ab_fr_set fr37 e39 (by first | (show _ ∧ _; omega) | (show _ ∨ _; omega) | (show _ = _; omega) | (show _ ≤ _; omega))
  clear c31 c32 c33 c34 c35 c36 fr37 e39
  try clear h29
  refine ab_aload_n d_MText_token_52 rfl rfl rfl ?_
  refine ab_dup d_MText_token_53 rfl ?_
  refine ab_get (f := 2) d_MText_token_54 c40 rfl (by decide) (k8 161 rfl rfl) rfl ?_
  refine ab_iconst (v := 1) d_MText_token_57 (by decide) ?_
  refine ab_iadd d_MText_token_58 ?_
  refine ab_topi (fun x47 ex47 => ?_)
  obtain rfl : x47 = 1 := ex47.trans (by decide)
  clear ex47
  refine ab_put (f := 2) d_MText_token_59 c40 rfl (by decide) (k8 161 rfl rfl) rfl rfl (fun _ => rfl) (fun _ => rfl) (Nat.le_of_ble_eq_true rfl) ?_
  show ab_V _ _ _ _ _ _ _ 62 [some (.ref t), some (.int 0), some (.int 0), some (.int 0)] [] (h38.set t (.inr (14, [.ref (t + 1), .int 0, .int 1, .ref (t + 2), .ref (t + 3), .ref (t + 4), .ref (t + 5), .ref (t + 6), .ref (t + 7), .int 0, .int 0, .int 0, .int 0, .ref (t + 8), .ref (t + 9), .ref (t + 10), .int 0, .ref (t + 11), .ref (t + 12), .ref (t + 13), .ref (t + 14), .int 0, .ref (t + 15), .ref (t + 16), .ref (t + 17), .ref (t + 18), .int 0, .ref (t + 19), .ref (t + 20), .int 0, .ref (t + 21), .ref (t + 22), .ref (t + 23), .ref (t + 24), .ref (t + 25), .ref (t + 26), .ref (t + 27), .int 0, .ref (t + 28), .ref (t + 29), .ref (t + 30), .int 0, .int 0])))
  refine ab_gen (fun h48 e49 => ?_)
  have c50 : h48[t]? = some (.inr (14, [.ref (t + 1), .int 0, .int 1, .ref (t + 2), .ref (t + 3), .ref (t + 4), .ref (t + 5), .ref (t + 6), .ref (t + 7), .int 0, .int 0, .int 0, .int 0, .ref (t + 8), .ref (t + 9), .ref (t + 10), .int 0, .ref (t + 11), .ref (t + 12), .ref (t + 13), .ref (t + 14), .int 0, .ref (t + 15), .ref (t + 16), .ref (t + 17), .ref (t + 18), .int 0, .ref (t + 19), .ref (t + 20), .int 0, .ref (t + 21), .ref (t + 22), .ref (t + 23), .ref (t + 24), .ref (t + 25), .ref (t + 26), .ref (t + 27), .int 0, .ref (t + 28), .ref (t + 29), .ref (t + 30), .int 0, .int 0])) := ab_self e49 c40
  have c51 : h48[t+2]? = some (.inl (.int, 6002, .inl (upd (fun _ => 0) (0 : Int32).toNatClampNeg 0))) := ab_other e49 (by omega) c41
  have c52 : h48[t+3]? = some (.inl (.int, 6002, .inl (upd q4f (0 : Int32).toNatClampNeg 0))) := ab_other e49 (by omega) c42
  have c53 : h48[t+4]? = some (.inl (.int, 6002, .inl (upd q5f (0 : Int32).toNatClampNeg 0))) := ab_other e49 (by omega) c43
  have c54 : h48[t+6]? = some (.inl (.boolean, 6002, .inl (upd q7f (0 : Int32).toNatClampNeg (vp_nar .boolean 0)))) := ab_other e49 (by omega) c44
  have c55 : h48[t+7]? = some (.inl (.int, 6002, .inl (upd q8f (0 : Int32).toNatClampNeg (-1)))) := ab_other e49 (by omega) c45
  have fr56 : ab_fr (fun j => j = t ∨ j = t+2 ∨ j = t+3 ∨ j = t+4 ∨ j = t+6 ∨ j = t+7) h h48 := ab_fr_set fr46 e49 (by first | (show _ ∧ _; omega) | (show _ ∨ _; omega) | (show _ = _; omega) | (show _ ≤ _; omega))
  clear c40 c41 c42 c43 c44 c45 fr46 e49
  try clear h38
  exact ab_vret d_MText_token_62 rfl (Nat.le_refl _) (Nat.le_refl _) (by exact ⟨rfl, c50, (by have z := c51; rw [upd_0] at z; exact z), fr56⟩)
set_option maxRecDepth 20000 in
set_option maxHeartbeats 2000000 in
theorem r_MText_scans {h : List ab_E}  {q4f : Nat → Int32} {q5f : Nat → Int32} {q7f : Nat → Int32} {q8f : Nat → Int32} {t tp : Nat}  (po : h[t]? = some (.inr (14, [.ref (t + 1), .int 0, .int 0, .ref (t + 2), .ref (t + 3), .ref (t + 4), .ref (t + 5), .ref (t + 6), .ref (t + 7), .int 0, .int 0, .int 0, .int 0, .ref (t + 8), .ref (t + 9), .ref (t + 10), .int 0, .ref (t + 11), .ref (t + 12), .ref (t + 13), .ref (t + 14), .int 0, .ref (t + 15), .ref (t + 16), .ref (t + 17), .ref (t + 18), .int 0, .ref (t + 19), .ref (t + 20), .int 0, .ref (t + 21), .ref (t + 22), .ref (t + 23), .ref (t + 24), .ref (t + 25), .ref (t + 26), .ref (t + 27), .int 0, .ref (t + 28), .ref (t + 29), .ref (t + 30), .int 0, .int 0]))) (q3a : h[t + 2]? = some (.inl (.int, 6002, .inl (fun _ => 0)))) (q4a : h[t + 3]? = some (.inl (.int, 6002, .inl q4f))) (q5a : h[t + 4]? = some (.inl (.int, 6002, .inl q5f))) (q7a : h[t + 6]? = some (.inl (.boolean, 6002, .inl q7f))) (q8a : h[t + 7]? = some (.inl (.int, 6002, .inl q8f)))  : ab_M y_MText_scans { frames := 1, cells := 0, slots := 0, locals := 40 } [.ref t, .ref tp, .int 0] h (ab_A none (fun h1 => h1[t]? = some (.inr (14, [.ref (t + 1), .int 0, .int 1, .ref (t + 2), .ref (t + 3), .ref (t + 4), .ref (t + 5), .ref (t + 6), .ref (t + 7), .int 0, .int 0, .int 0, .int 0, .ref (t + 8), .ref (t + 9), .ref (t + 10), .int 0, .ref (t + 11), .ref (t + 12), .ref (t + 13), .ref (t + 14), .int 0, .ref (t + 15), .ref (t + 16), .ref (t + 17), .ref (t + 18), .int 0, .ref (t + 19), .ref (t + 20), .int 0, .ref (t + 21), .ref (t + 22), .ref (t + 23), .ref (t + 24), .ref (t + 25), .ref (t + 26), .ref (t + 27), .int 0, .ref (t + 28), .ref (t + 29), .ref (t + 30), .int 0, .int 0])) ∧ h1[t+2]? = some (.inl (.int, 6002, .inl (fun _ => 0))) ∧ ab_fr (fun j => j = t ∨ j = t+2 ∨ j = t+3 ∨ j = t+4 ∨ j = t+6 ∨ j = t+7) h h1)) := by
  refine ab_of2 (lv := [some (.ref t), some (.ref tp), some (.int 0), none, none, none]) 3 rfl rfl (Nat.le_of_ble_eq_true rfl) ?_
  refine ab_aload_n d_MText_scans_0 rfl rfl rfl ?_
  refine ab_iload_n d_MText_scans_1 rfl rfl ?_
  refine ab_put (f := 1) d_MText_scans_2 po rfl (by decide) (k8 160 rfl rfl) rfl rfl (fun _ => rfl) (fun _ => rfl) (Nat.le_of_ble_eq_true rfl) ?_
  show ab_V _ _ _ _ _ _ _ 5 [some (.ref t), some (.ref tp), some (.int 0), none, none, none] [] (h.set t (.inr (14, [.ref (t + 1), .int 0, .int 0, .ref (t + 2), .ref (t + 3), .ref (t + 4), .ref (t + 5), .ref (t + 6), .ref (t + 7), .int 0, .int 0, .int 0, .int 0, .ref (t + 8), .ref (t + 9), .ref (t + 10), .int 0, .ref (t + 11), .ref (t + 12), .ref (t + 13), .ref (t + 14), .int 0, .ref (t + 15), .ref (t + 16), .ref (t + 17), .ref (t + 18), .int 0, .ref (t + 19), .ref (t + 20), .int 0, .ref (t + 21), .ref (t + 22), .ref (t + 23), .ref (t + 24), .ref (t + 25), .ref (t + 26), .ref (t + 27), .int 0, .ref (t + 28), .ref (t + 29), .ref (t + 30), .int 0, .int 0])))
  refine ab_gen (fun h1 e2 => ?_)
  have c3 : h1[t]? = some (.inr (14, [.ref (t + 1), .int 0, .int 0, .ref (t + 2), .ref (t + 3), .ref (t + 4), .ref (t + 5), .ref (t + 6), .ref (t + 7), .int 0, .int 0, .int 0, .int 0, .ref (t + 8), .ref (t + 9), .ref (t + 10), .int 0, .ref (t + 11), .ref (t + 12), .ref (t + 13), .ref (t + 14), .int 0, .ref (t + 15), .ref (t + 16), .ref (t + 17), .ref (t + 18), .int 0, .ref (t + 19), .ref (t + 20), .int 0, .ref (t + 21), .ref (t + 22), .ref (t + 23), .ref (t + 24), .ref (t + 25), .ref (t + 26), .ref (t + 27), .int 0, .ref (t + 28), .ref (t + 29), .ref (t + 30), .int 0, .int 0])) := ab_self e2 po
  have c4 : h1[t+2]? = some (.inl (.int, 6002, .inl (fun _ => 0))) := ab_other e2 (by omega) q3a
  have c5 : h1[t+3]? = some (.inl (.int, 6002, .inl q4f)) := ab_other e2 (by omega) q4a
  have c6 : h1[t+4]? = some (.inl (.int, 6002, .inl q5f)) := ab_other e2 (by omega) q5a
  have c7 : h1[t+6]? = some (.inl (.boolean, 6002, .inl q7f)) := ab_other e2 (by omega) q7a
  have c8 : h1[t+7]? = some (.inl (.int, 6002, .inl q8f)) := ab_other e2 (by omega) q8a
  have fr9 : ab_fr (fun j => j = t ∨ j = t+2 ∨ j = t+3 ∨ j = t+4 ∨ j = t+6 ∨ j = t+7) h h1 := ab_fr_set (ab_fr_rf _ _) e2 (by first | (show _ ∧ _; omega) | (show _ ∨ _; omega) | (show _ = _; omega) | (show _ ≤ _; omega))
  clear e2
  refine ab_iconst (v := 0) d_MText_scans_5 (by decide) ?_
  refine ab_istore_n (lv' := [some (.ref t), some (.ref tp), some (.int 0), some (.int 0), none, none]) d_MText_scans_6 rfl (by decide) rfl ?_
  refine ab_iload_n d_MText_scans_7 rfl rfl ?_
  refine ab_iload_n d_MText_scans_8 rfl rfl ?_
  refine ab_icmp_ge (tgt := 27) d_MText_scans_9 (by decide) (fun q10 => ?_) (fun q10 => by exact absurd (by decide) q10)
  refine ab_aload_n d_MText_scans_27 rfl rfl rfl ?_
  refine ab_iconst (v := 0) d_MText_scans_28 (by decide) ?_
  refine ab_put (f := 2) d_MText_scans_29 c3 rfl (by decide) (k8 161 rfl rfl) rfl rfl (fun _ => rfl) (fun _ => rfl) (Nat.le_of_ble_eq_true rfl) ?_
  show ab_V _ _ _ _ _ _ _ 32 [some (.ref t), some (.ref tp), some (.int 0), some (.int 0), none, none] [] (h1.set t (.inr (14, [.ref (t + 1), .int 0, .int 0, .ref (t + 2), .ref (t + 3), .ref (t + 4), .ref (t + 5), .ref (t + 6), .ref (t + 7), .int 0, .int 0, .int 0, .int 0, .ref (t + 8), .ref (t + 9), .ref (t + 10), .int 0, .ref (t + 11), .ref (t + 12), .ref (t + 13), .ref (t + 14), .int 0, .ref (t + 15), .ref (t + 16), .ref (t + 17), .ref (t + 18), .int 0, .ref (t + 19), .ref (t + 20), .int 0, .ref (t + 21), .ref (t + 22), .ref (t + 23), .ref (t + 24), .ref (t + 25), .ref (t + 26), .ref (t + 27), .int 0, .ref (t + 28), .ref (t + 29), .ref (t + 30), .int 0, .int 0])))
  refine ab_gen (fun h11 e12 => ?_)
  have c13 : h11[t]? = some (.inr (14, [.ref (t + 1), .int 0, .int 0, .ref (t + 2), .ref (t + 3), .ref (t + 4), .ref (t + 5), .ref (t + 6), .ref (t + 7), .int 0, .int 0, .int 0, .int 0, .ref (t + 8), .ref (t + 9), .ref (t + 10), .int 0, .ref (t + 11), .ref (t + 12), .ref (t + 13), .ref (t + 14), .int 0, .ref (t + 15), .ref (t + 16), .ref (t + 17), .ref (t + 18), .int 0, .ref (t + 19), .ref (t + 20), .int 0, .ref (t + 21), .ref (t + 22), .ref (t + 23), .ref (t + 24), .ref (t + 25), .ref (t + 26), .ref (t + 27), .int 0, .ref (t + 28), .ref (t + 29), .ref (t + 30), .int 0, .int 0])) := ab_self e12 c3
  have c14 : h11[t+2]? = some (.inl (.int, 6002, .inl (fun _ => 0))) := ab_other e12 (by omega) c4
  have c15 : h11[t+3]? = some (.inl (.int, 6002, .inl q4f)) := ab_other e12 (by omega) c5
  have c16 : h11[t+4]? = some (.inl (.int, 6002, .inl q5f)) := ab_other e12 (by omega) c6
  have c17 : h11[t+6]? = some (.inl (.boolean, 6002, .inl q7f)) := ab_other e12 (by omega) c7
  have c18 : h11[t+7]? = some (.inl (.int, 6002, .inl q8f)) := ab_other e12 (by omega) c8
  have fr19 : ab_fr (fun j => j = t ∨ j = t+2 ∨ j = t+3 ∨ j = t+4 ∨ j = t+6 ∨ j = t+7) h h11 := ab_fr_set fr9 e12 (by first | (show _ ∧ _; omega) | (show _ ∨ _; omega) | (show _ = _; omega) | (show _ ≤ _; omega))
  clear c3 c4 c5 c6 c7 c8 fr9 e12
  try clear h1
  refine ab_iconst (v := 0) d_MText_scans_32 (by decide) ?_
  refine ab_istore_n (lv' := [some (.ref t), some (.ref tp), some (.int 0), some (.int 0), none, none]) d_MText_scans_33 rfl (by decide) rfl ?_
  refine ab_iconst (v := 1) d_MText_scans_34 (by decide) ?_
  refine ab_istore (lv' := [some (.ref t), some (.ref tp), some (.int 0), some (.int 0), some (.int 1), none]) d_MText_scans_35 (by decide) rfl ?_
  refine ab_iload d_MText_scans_37 rfl ?_
  refine ab_if_eq (tgt := 156) d_MText_scans_39 (by decide) (fun q20 => by exact absurd q20 (by decide)) (fun q20 => ?_)
  refine ab_aload_n d_MText_scans_42 rfl rfl rfl ?_
  refine ab_iload_n d_MText_scans_43 rfl rfl ?_
  refine ab_callV_a (As := [.int 0]) (rest := []) d_MText_scans_44 (r_MText_skips c13) (ab_mkC s_MText_skips (Nat.le_of_ble_eq_true rfl) (Nat.le_of_ble_eq_true rfl) (by decide) (by decide)) (k10 112 rfl rfl) i_MText_skips v_MText_skips c13 rfl rfl (Nat.le_of_ble_eq_true rfl) (fun h22 q21 => ?_)
  subst q21
  refine ab_istore_n (lv' := [some (.ref t), some (.ref tp), some (.int 0), some (.int 0), some (.int 1), none]) d_MText_scans_47 rfl (by decide) rfl ?_
  refine ab_aload_n d_MText_scans_48 rfl rfl rfl ?_
  refine ab_iload_n d_MText_scans_49 rfl rfl ?_
  refine ab_callV_a (As := [.int 0]) (rest := []) d_MText_scans_50 (r_MText_letter c13) (ab_mkC s_MText_letter (Nat.le_of_ble_eq_true rfl) (Nat.le_of_ble_eq_true rfl) (by decide) (by decide)) (k10 116 rfl rfl) i_MText_letter v_MText_letter c13 rfl rfl (Nat.le_of_ble_eq_true rfl) (fun h24 q23 => ?_)
  subst q23
  refine ab_istore (lv' := [some (.ref t), some (.ref tp), some (.int 0), some (.int 0), some (.int 1), some (.int 0)]) d_MText_scans_53 (by decide) rfl ?_
  refine ab_iload_n d_MText_scans_55 rfl rfl ?_
  refine ab_aload_n d_MText_scans_56 rfl rfl rfl ?_
  refine ab_get (f := 1) d_MText_scans_57 c13 rfl (by decide) (k8 160 rfl rfl) rfl ?_
  refine ab_icmp_lt (tgt := 82) d_MText_scans_60 (by decide) (fun q25 => by exact absurd q25 (by decide)) (fun q25 => ?_)
  refine ab_aload_n d_MText_scans_63 rfl rfl rfl ?_
  refine ab_iconst (v := 0) d_MText_scans_64 (by decide) ?_
  refine ab_aload_n d_MText_scans_65 rfl rfl rfl ?_
  refine ab_get (f := 1) d_MText_scans_66 c13 rfl (by decide) (k8 160 rfl rfl) rfl ?_
  refine ab_aload_n d_MText_scans_69 rfl rfl rfl ?_
  refine ab_get (f := 1) d_MText_scans_70 c13 rfl (by decide) (k8 160 rfl rfl) rfl ?_
  refine ab_callV_v (As := [.int 0, .int 0, .int 0]) (rest := []) d_MText_scans_73 (r_MText_token c13 c14 c15 c16 c17 c18) (ab_mkC s_MText_token (Nat.le_of_ble_eq_true rfl) (Nat.le_of_ble_eq_true rfl) (by decide) (by decide)) (k10 120 rfl rfl) i_MText_token v_MText_token c13 rfl rfl (Nat.le_of_ble_eq_true rfl) (fun h26 q27 => ?_)
  obtain ⟨c29, c30, f28⟩ := q27
  have fr31 : ab_fr (fun j => j = t ∨ j = t+2 ∨ j = t+3 ∨ j = t+4 ∨ j = t+6 ∨ j = t+7) h h26 := ab_fr_tr fr19 f28
  clear c13 c14 f28 fr19
  try clear h11
  replace c29 : h26[t]? = some (.inr (14, [.ref (t + 1), .int 0, .int 1, .ref (t + 2), .ref (t + 3), .ref (t + 4), .ref (t + 5), .ref (t + 6), .ref (t + 7), .int 0, .int 0, .int 0, .int 0, .ref (t + 8), .ref (t + 9), .ref (t + 10), .int 0, .ref (t + 11), .ref (t + 12), .ref (t + 13), .ref (t + 14), .int 0, .ref (t + 15), .ref (t + 16), .ref (t + 17), .ref (t + 18), .int 0, .ref (t + 19), .ref (t + 20), .int 0, .ref (t + 21), .ref (t + 22), .ref (t + 23), .ref (t + 24), .ref (t + 25), .ref (t + 26), .ref (t + 27), .int 0, .ref (t + 28), .ref (t + 29), .ref (t + 30), .int 0, .int 0])) := c29
  replace c30 : h26[t+2]? = some (.inl (.int, 6002, .inl (fun _ => 0))) := c30
  refine ab_iconst (v := 0) d_MText_scans_76 (by decide) ?_
  refine ab_istore (lv' := [some (.ref t), some (.ref tp), some (.int 0), some (.int 0), some (.int 0), some (.int 0)]) d_MText_scans_77 (by decide) rfl ?_
  refine ab_goto (tgt := 153) d_MText_scans_79 (by decide) ?_
  refine ab_goto (tgt := 37) d_MText_scans_153 (by decide) ?_
  refine ab_iload d_MText_scans_37 rfl ?_
  refine ab_if_eq (tgt := 156) d_MText_scans_39 (by decide) (fun q32 => ?_) (fun q32 => by exact absurd (by decide) q32)
  exact ab_vret d_MText_scans_156 rfl (Nat.le_refl _) (Nat.le_refl _) (by exact ⟨rfl, c29, c30, fr31⟩)
set_option maxRecDepth 20000 in
set_option maxHeartbeats 2000000 in
theorem r_MText_groupsThem {h : List ab_E}  {t : Nat}  (po : h[t]? = some (.inr (14, [.ref (t + 1), .int 0, .int 1, .ref (t + 2), .ref (t + 3), .ref (t + 4), .ref (t + 5), .ref (t + 6), .ref (t + 7), .int 0, .int 0, .int 0, .int 0, .ref (t + 8), .ref (t + 9), .ref (t + 10), .int 0, .ref (t + 11), .ref (t + 12), .ref (t + 13), .ref (t + 14), .int 0, .ref (t + 15), .ref (t + 16), .ref (t + 17), .ref (t + 18), .int 0, .ref (t + 19), .ref (t + 20), .int 0, .ref (t + 21), .ref (t + 22), .ref (t + 23), .ref (t + 24), .ref (t + 25), .ref (t + 26), .ref (t + 27), .int 0, .ref (t + 28), .ref (t + 29), .ref (t + 30), .int 0, .int 0])))  : ab_M y_MText_groupsThem { frames := 0, cells := 0, slots := 0, locals := 0 } [.ref t] h (ab_A none (fun h1 => h = h1)) := by
  refine ab_of2 (lv := [some (.ref t), none, none, none, none, none]) 5 rfl rfl (Nat.le_of_ble_eq_true rfl) ?_
  refine ab_iconst (v := 0) d_MText_groupsThem_0 (by decide) ?_
  refine ab_istore_n (lv' := [some (.ref t), some (.int 0), none, none, none, none]) d_MText_groupsThem_1 rfl (by decide) rfl ?_
  refine ab_iconst (v := 0) d_MText_groupsThem_2 (by decide) ?_
  refine ab_istore_n (lv' := [some (.ref t), some (.int 0), some (.int 0), none, none, none]) d_MText_groupsThem_3 rfl (by decide) rfl ?_
  refine ab_iconst (v := 0) d_MText_groupsThem_4 (by decide) ?_
  refine ab_istore_n (lv' := [some (.ref t), some (.int 0), some (.int 0), some (.int 0), none, none]) d_MText_groupsThem_5 rfl (by decide) rfl ?_
  refine ab_iload_n d_MText_groupsThem_6 rfl rfl ?_
  refine ab_aload_n d_MText_groupsThem_7 rfl rfl rfl ?_
  refine ab_get (f := 29) d_MText_groupsThem_8 po rfl (by decide) (k8 213 rfl rfl) rfl ?_
  refine ab_icmp_ge (tgt := 145) d_MText_groupsThem_11 (by decide) (fun q1 => ?_) (fun q1 => by exact absurd (by decide) q1)
  exact ab_vret d_MText_groupsThem_145 rfl (Nat.le_refl _) (Nat.le_refl _) (by exact ⟨rfl, rfl⟩)
set_option maxRecDepth 20000 in
set_option maxHeartbeats 2000000 in
theorem r_MText_reads {h : List ab_E}  {q4f : Nat → Int32} {q5f : Nat → Int32} {q7f : Nat → Int32} {q8f : Nat → Int32} {q18f : Nat → Int32} {t tp : Nat}  (po : h[t]? = some (.inr (14, [.ref (t + 1), .int 0, .int 0, .ref (t + 2), .ref (t + 3), .ref (t + 4), .ref (t + 5), .ref (t + 6), .ref (t + 7), .int 0, .int 0, .int 0, .int 0, .ref (t + 8), .ref (t + 9), .ref (t + 10), .int 0, .ref (t + 11), .ref (t + 12), .ref (t + 13), .ref (t + 14), .int 0, .ref (t + 15), .ref (t + 16), .ref (t + 17), .ref (t + 18), .int 0, .ref (t + 19), .ref (t + 20), .int 0, .ref (t + 21), .ref (t + 22), .ref (t + 23), .ref (t + 24), .ref (t + 25), .ref (t + 26), .ref (t + 27), .int 0, .ref (t + 28), .ref (t + 29), .ref (t + 30), .int 0, .int 0]))) (q3a : h[t + 2]? = some (.inl (.int, 6002, .inl (fun _ => 0)))) (q4a : h[t + 3]? = some (.inl (.int, 6002, .inl q4f))) (q5a : h[t + 4]? = some (.inl (.int, 6002, .inl q5f))) (q7a : h[t + 6]? = some (.inl (.boolean, 6002, .inl q7f))) (q8a : h[t + 7]? = some (.inl (.int, 6002, .inl q8f))) (q18a : h[t + 12]? = some (.inl (.int, 17, .inl q18f)))  : ab_M y_MText_reads { frames := 2, cells := 0, slots := 0, locals := 80 } [.ref t, .ref tp, .int 0] h (ab_A none (fun h1 => h1[t]? = some (.inr (14, [.ref (t + 1), .int 0, .int 1, .ref (t + 2), .ref (t + 3), .ref (t + 4), .ref (t + 5), .ref (t + 6), .ref (t + 7), .int 0, .int 0, .int 0, .int 0, .ref (t + 8), .ref (t + 9), .ref (t + 10), .int 0, .ref (t + 11), .ref (t + 12), .ref (t + 13), .ref (t + 14), .int 0, .ref (t + 15), .ref (t + 16), .ref (t + 17), .ref (t + 18), .int 0, .ref (t + 19), .ref (t + 20), .int 0, .ref (t + 21), .ref (t + 22), .ref (t + 23), .ref (t + 24), .ref (t + 25), .ref (t + 26), .ref (t + 27), .int 0, .ref (t + 28), .ref (t + 29), .ref (t + 30), .int 0, .int 0])) ∧ ab_fr (in_MText t) h h1)) := by
  refine ab_of2 (lv := [some (.ref t), some (.ref tp), some (.int 0), none]) 1 rfl rfl (Nat.le_of_ble_eq_true rfl) ?_
  refine ab_aload_n d_MText_reads_0 rfl rfl rfl ?_
  refine ab_aload_n d_MText_reads_1 rfl rfl rfl ?_
  refine ab_iload_n d_MText_reads_2 rfl rfl ?_
  refine ab_callV_v (As := [.ref tp, .int 0]) (rest := []) d_MText_reads_3 (r_MText_scans po q3a q4a q5a q7a q8a) (ab_mkC s_MText_scans (Nat.le_of_ble_eq_true rfl) (Nat.le_of_ble_eq_true rfl) (by decide) (by decide)) (k10 108 rfl rfl) i_MText_scans v_MText_scans po rfl rfl (Nat.le_of_ble_eq_true rfl) (fun h1 q2 => ?_)
  obtain ⟨c4, c5, f3⟩ := q2
  have c6 : h1[t+12]? = some (.inl (.int, 17, .inl q18f)) := ab_fr_at f3 q18a (by omega)
  have fr7 : ab_fr (in_MText t) h h1 := ab_fr_tr (ab_fr_rf _ _) (ab_fr_mono f3 (by intro i hi; simp only [in_MText] at * <;> omega))
  clear f3
  replace c4 : h1[t]? = some (.inr (14, [.ref (t + 1), .int 0, .int 1, .ref (t + 2), .ref (t + 3), .ref (t + 4), .ref (t + 5), .ref (t + 6), .ref (t + 7), .int 0, .int 0, .int 0, .int 0, .ref (t + 8), .ref (t + 9), .ref (t + 10), .int 0, .ref (t + 11), .ref (t + 12), .ref (t + 13), .ref (t + 14), .int 0, .ref (t + 15), .ref (t + 16), .ref (t + 17), .ref (t + 18), .int 0, .ref (t + 19), .ref (t + 20), .int 0, .ref (t + 21), .ref (t + 22), .ref (t + 23), .ref (t + 24), .ref (t + 25), .ref (t + 26), .ref (t + 27), .int 0, .ref (t + 28), .ref (t + 29), .ref (t + 30), .int 0, .int 0])) := c4
  replace c5 : h1[t+2]? = some (.inl (.int, 6002, .inl (fun _ => 0))) := c5
  refine ab_aload_n d_MText_reads_6 rfl rfl rfl ?_
  refine ab_iconst (v := 0) d_MText_reads_7 (by decide) ?_
  refine ab_put (f := 9) d_MText_reads_8 c4 rfl (by decide) (k8 172 rfl rfl) rfl rfl (fun _ => rfl) (fun _ => rfl) (Nat.le_of_ble_eq_true rfl) ?_
  show ab_V _ _ _ _ _ _ _ 11 [some (.ref t), some (.ref tp), some (.int 0), none] [] (h1.set t (.inr (14, [.ref (t + 1), .int 0, .int 1, .ref (t + 2), .ref (t + 3), .ref (t + 4), .ref (t + 5), .ref (t + 6), .ref (t + 7), .int 0, .int 0, .int 0, .int 0, .ref (t + 8), .ref (t + 9), .ref (t + 10), .int 0, .ref (t + 11), .ref (t + 12), .ref (t + 13), .ref (t + 14), .int 0, .ref (t + 15), .ref (t + 16), .ref (t + 17), .ref (t + 18), .int 0, .ref (t + 19), .ref (t + 20), .int 0, .ref (t + 21), .ref (t + 22), .ref (t + 23), .ref (t + 24), .ref (t + 25), .ref (t + 26), .ref (t + 27), .int 0, .ref (t + 28), .ref (t + 29), .ref (t + 30), .int 0, .int 0])))
  refine ab_gen (fun h8 e9 => ?_)
  have c10 : h8[t+12]? = some (.inl (.int, 17, .inl q18f)) := ab_other e9 (by omega) c6
  have c11 : h8[t]? = some (.inr (14, [.ref (t + 1), .int 0, .int 1, .ref (t + 2), .ref (t + 3), .ref (t + 4), .ref (t + 5), .ref (t + 6), .ref (t + 7), .int 0, .int 0, .int 0, .int 0, .ref (t + 8), .ref (t + 9), .ref (t + 10), .int 0, .ref (t + 11), .ref (t + 12), .ref (t + 13), .ref (t + 14), .int 0, .ref (t + 15), .ref (t + 16), .ref (t + 17), .ref (t + 18), .int 0, .ref (t + 19), .ref (t + 20), .int 0, .ref (t + 21), .ref (t + 22), .ref (t + 23), .ref (t + 24), .ref (t + 25), .ref (t + 26), .ref (t + 27), .int 0, .ref (t + 28), .ref (t + 29), .ref (t + 30), .int 0, .int 0])) := ab_self e9 c4
  have c12 : h8[t+2]? = some (.inl (.int, 6002, .inl (fun _ => 0))) := ab_other e9 (by omega) c5
  have fr13 : ab_fr (in_MText t) h h8 := ab_fr_set fr7 e9 (by first | (show _ ∧ _; omega) | (show _ ∨ _; omega) | (show _ = _; omega) | (show _ ≤ _; omega))
  clear c6 c4 c5 fr7 e9
  try clear h1
  refine ab_aload_n d_MText_reads_11 rfl rfl rfl ?_
  refine ab_iconst (v := 0) d_MText_reads_12 (by decide) ?_
  refine ab_put (f := 10) d_MText_reads_13 c11 rfl (by decide) (k8 174 rfl rfl) rfl rfl (fun _ => rfl) (fun _ => rfl) (Nat.le_of_ble_eq_true rfl) ?_
  show ab_V _ _ _ _ _ _ _ 16 [some (.ref t), some (.ref tp), some (.int 0), none] [] (h8.set t (.inr (14, [.ref (t + 1), .int 0, .int 1, .ref (t + 2), .ref (t + 3), .ref (t + 4), .ref (t + 5), .ref (t + 6), .ref (t + 7), .int 0, .int 0, .int 0, .int 0, .ref (t + 8), .ref (t + 9), .ref (t + 10), .int 0, .ref (t + 11), .ref (t + 12), .ref (t + 13), .ref (t + 14), .int 0, .ref (t + 15), .ref (t + 16), .ref (t + 17), .ref (t + 18), .int 0, .ref (t + 19), .ref (t + 20), .int 0, .ref (t + 21), .ref (t + 22), .ref (t + 23), .ref (t + 24), .ref (t + 25), .ref (t + 26), .ref (t + 27), .int 0, .ref (t + 28), .ref (t + 29), .ref (t + 30), .int 0, .int 0])))
  refine ab_gen (fun h14 e15 => ?_)
  have c16 : h14[t+12]? = some (.inl (.int, 17, .inl q18f)) := ab_other e15 (by omega) c10
  have c17 : h14[t]? = some (.inr (14, [.ref (t + 1), .int 0, .int 1, .ref (t + 2), .ref (t + 3), .ref (t + 4), .ref (t + 5), .ref (t + 6), .ref (t + 7), .int 0, .int 0, .int 0, .int 0, .ref (t + 8), .ref (t + 9), .ref (t + 10), .int 0, .ref (t + 11), .ref (t + 12), .ref (t + 13), .ref (t + 14), .int 0, .ref (t + 15), .ref (t + 16), .ref (t + 17), .ref (t + 18), .int 0, .ref (t + 19), .ref (t + 20), .int 0, .ref (t + 21), .ref (t + 22), .ref (t + 23), .ref (t + 24), .ref (t + 25), .ref (t + 26), .ref (t + 27), .int 0, .ref (t + 28), .ref (t + 29), .ref (t + 30), .int 0, .int 0])) := ab_self e15 c11
  have c18 : h14[t+2]? = some (.inl (.int, 6002, .inl (fun _ => 0))) := ab_other e15 (by omega) c12
  have fr19 : ab_fr (in_MText t) h h14 := ab_fr_set fr13 e15 (by first | (show _ ∧ _; omega) | (show _ ∨ _; omega) | (show _ = _; omega) | (show _ ≤ _; omega))
  clear c10 c11 c12 fr13 e15
  try clear h8
  refine ab_aload_n d_MText_reads_16 rfl rfl rfl ?_
  refine ab_iconst (v := 0) d_MText_reads_17 (by decide) ?_
  refine ab_put (f := 11) d_MText_reads_18 c17 rfl (by decide) (k8 175 rfl rfl) rfl rfl (fun _ => rfl) (fun _ => rfl) (Nat.le_of_ble_eq_true rfl) ?_
  show ab_V _ _ _ _ _ _ _ 21 [some (.ref t), some (.ref tp), some (.int 0), none] [] (h14.set t (.inr (14, [.ref (t + 1), .int 0, .int 1, .ref (t + 2), .ref (t + 3), .ref (t + 4), .ref (t + 5), .ref (t + 6), .ref (t + 7), .int 0, .int 0, .int 0, .int 0, .ref (t + 8), .ref (t + 9), .ref (t + 10), .int 0, .ref (t + 11), .ref (t + 12), .ref (t + 13), .ref (t + 14), .int 0, .ref (t + 15), .ref (t + 16), .ref (t + 17), .ref (t + 18), .int 0, .ref (t + 19), .ref (t + 20), .int 0, .ref (t + 21), .ref (t + 22), .ref (t + 23), .ref (t + 24), .ref (t + 25), .ref (t + 26), .ref (t + 27), .int 0, .ref (t + 28), .ref (t + 29), .ref (t + 30), .int 0, .int 0])))
  refine ab_gen (fun h20 e21 => ?_)
  have c22 : h20[t+12]? = some (.inl (.int, 17, .inl q18f)) := ab_other e21 (by omega) c16
  have c23 : h20[t]? = some (.inr (14, [.ref (t + 1), .int 0, .int 1, .ref (t + 2), .ref (t + 3), .ref (t + 4), .ref (t + 5), .ref (t + 6), .ref (t + 7), .int 0, .int 0, .int 0, .int 0, .ref (t + 8), .ref (t + 9), .ref (t + 10), .int 0, .ref (t + 11), .ref (t + 12), .ref (t + 13), .ref (t + 14), .int 0, .ref (t + 15), .ref (t + 16), .ref (t + 17), .ref (t + 18), .int 0, .ref (t + 19), .ref (t + 20), .int 0, .ref (t + 21), .ref (t + 22), .ref (t + 23), .ref (t + 24), .ref (t + 25), .ref (t + 26), .ref (t + 27), .int 0, .ref (t + 28), .ref (t + 29), .ref (t + 30), .int 0, .int 0])) := ab_self e21 c17
  have c24 : h20[t+2]? = some (.inl (.int, 6002, .inl (fun _ => 0))) := ab_other e21 (by omega) c18
  have fr25 : ab_fr (in_MText t) h h20 := ab_fr_set fr19 e21 (by first | (show _ ∧ _; omega) | (show _ ∨ _; omega) | (show _ = _; omega) | (show _ ≤ _; omega))
  clear c16 c17 c18 fr19 e21
  try clear h14
  refine ab_aload_n d_MText_reads_21 rfl rfl rfl ?_
  refine ab_iconst (v := 0) d_MText_reads_22 (by decide) ?_
  refine ab_put (f := 12) d_MText_reads_23 c23 rfl (by decide) (k8 176 rfl rfl) rfl rfl (fun _ => rfl) (fun _ => rfl) (Nat.le_of_ble_eq_true rfl) ?_
  show ab_V _ _ _ _ _ _ _ 26 [some (.ref t), some (.ref tp), some (.int 0), none] [] (h20.set t (.inr (14, [.ref (t + 1), .int 0, .int 1, .ref (t + 2), .ref (t + 3), .ref (t + 4), .ref (t + 5), .ref (t + 6), .ref (t + 7), .int 0, .int 0, .int 0, .int 0, .ref (t + 8), .ref (t + 9), .ref (t + 10), .int 0, .ref (t + 11), .ref (t + 12), .ref (t + 13), .ref (t + 14), .int 0, .ref (t + 15), .ref (t + 16), .ref (t + 17), .ref (t + 18), .int 0, .ref (t + 19), .ref (t + 20), .int 0, .ref (t + 21), .ref (t + 22), .ref (t + 23), .ref (t + 24), .ref (t + 25), .ref (t + 26), .ref (t + 27), .int 0, .ref (t + 28), .ref (t + 29), .ref (t + 30), .int 0, .int 0])))
  refine ab_gen (fun h26 e27 => ?_)
  have c28 : h26[t+12]? = some (.inl (.int, 17, .inl q18f)) := ab_other e27 (by omega) c22
  have c29 : h26[t]? = some (.inr (14, [.ref (t + 1), .int 0, .int 1, .ref (t + 2), .ref (t + 3), .ref (t + 4), .ref (t + 5), .ref (t + 6), .ref (t + 7), .int 0, .int 0, .int 0, .int 0, .ref (t + 8), .ref (t + 9), .ref (t + 10), .int 0, .ref (t + 11), .ref (t + 12), .ref (t + 13), .ref (t + 14), .int 0, .ref (t + 15), .ref (t + 16), .ref (t + 17), .ref (t + 18), .int 0, .ref (t + 19), .ref (t + 20), .int 0, .ref (t + 21), .ref (t + 22), .ref (t + 23), .ref (t + 24), .ref (t + 25), .ref (t + 26), .ref (t + 27), .int 0, .ref (t + 28), .ref (t + 29), .ref (t + 30), .int 0, .int 0])) := ab_self e27 c23
  have c30 : h26[t+2]? = some (.inl (.int, 6002, .inl (fun _ => 0))) := ab_other e27 (by omega) c24
  have fr31 : ab_fr (in_MText t) h h26 := ab_fr_set fr25 e27 (by first | (show _ ∧ _; omega) | (show _ ∨ _; omega) | (show _ = _; omega) | (show _ ≤ _; omega))
  clear c22 c23 c24 fr25 e27
  try clear h20
  refine ab_aload_n d_MText_reads_26 rfl rfl rfl ?_
  refine ab_iconst (v := 0) d_MText_reads_27 (by decide) ?_
  refine ab_put (f := 16) d_MText_reads_28 c29 rfl (by decide) (k8 181 rfl rfl) rfl rfl (fun _ => rfl) (fun _ => rfl) (Nat.le_of_ble_eq_true rfl) ?_
  show ab_V _ _ _ _ _ _ _ 31 [some (.ref t), some (.ref tp), some (.int 0), none] [] (h26.set t (.inr (14, [.ref (t + 1), .int 0, .int 1, .ref (t + 2), .ref (t + 3), .ref (t + 4), .ref (t + 5), .ref (t + 6), .ref (t + 7), .int 0, .int 0, .int 0, .int 0, .ref (t + 8), .ref (t + 9), .ref (t + 10), .int 0, .ref (t + 11), .ref (t + 12), .ref (t + 13), .ref (t + 14), .int 0, .ref (t + 15), .ref (t + 16), .ref (t + 17), .ref (t + 18), .int 0, .ref (t + 19), .ref (t + 20), .int 0, .ref (t + 21), .ref (t + 22), .ref (t + 23), .ref (t + 24), .ref (t + 25), .ref (t + 26), .ref (t + 27), .int 0, .ref (t + 28), .ref (t + 29), .ref (t + 30), .int 0, .int 0])))
  refine ab_gen (fun h32 e33 => ?_)
  have c34 : h32[t+12]? = some (.inl (.int, 17, .inl q18f)) := ab_other e33 (by omega) c28
  have c35 : h32[t]? = some (.inr (14, [.ref (t + 1), .int 0, .int 1, .ref (t + 2), .ref (t + 3), .ref (t + 4), .ref (t + 5), .ref (t + 6), .ref (t + 7), .int 0, .int 0, .int 0, .int 0, .ref (t + 8), .ref (t + 9), .ref (t + 10), .int 0, .ref (t + 11), .ref (t + 12), .ref (t + 13), .ref (t + 14), .int 0, .ref (t + 15), .ref (t + 16), .ref (t + 17), .ref (t + 18), .int 0, .ref (t + 19), .ref (t + 20), .int 0, .ref (t + 21), .ref (t + 22), .ref (t + 23), .ref (t + 24), .ref (t + 25), .ref (t + 26), .ref (t + 27), .int 0, .ref (t + 28), .ref (t + 29), .ref (t + 30), .int 0, .int 0])) := ab_self e33 c29
  have c36 : h32[t+2]? = some (.inl (.int, 6002, .inl (fun _ => 0))) := ab_other e33 (by omega) c30
  have fr37 : ab_fr (in_MText t) h h32 := ab_fr_set fr31 e33 (by first | (show _ ∧ _; omega) | (show _ ∨ _; omega) | (show _ = _; omega) | (show _ ≤ _; omega))
  clear c28 c29 c30 fr31 e33
  try clear h26
  refine ab_aload_n d_MText_reads_31 rfl rfl rfl ?_
  refine ab_get (f := 18) d_MText_reads_32 c35 rfl (by decide) (k8 184 rfl rfl) rfl ?_
  refine ab_iconst (v := 0) d_MText_reads_35 (by decide) ?_
  refine ab_iconst (v := 0) d_MText_reads_36 (by decide) ?_
  refine ab_iast d_MText_reads_37 tI c34 (in_of (by decide) (by decide) (by decide)) ?_
  refine ab_gen (fun h38 e39 => ?_)
  have c40 : h38[t+12]? = some (.inl (.int, 17, .inl (upd q18f (0 : Int32).toNatClampNeg 0))) := ab_self e39 c34
  have c41 : h38[t]? = some (.inr (14, [.ref (t + 1), .int 0, .int 1, .ref (t + 2), .ref (t + 3), .ref (t + 4), .ref (t + 5), .ref (t + 6), .ref (t + 7), .int 0, .int 0, .int 0, .int 0, .ref (t + 8), .ref (t + 9), .ref (t + 10), .int 0, .ref (t + 11), .ref (t + 12), .ref (t + 13), .ref (t + 14), .int 0, .ref (t + 15), .ref (t + 16), .ref (t + 17), .ref (t + 18), .int 0, .ref (t + 19), .ref (t + 20), .int 0, .ref (t + 21), .ref (t + 22), .ref (t + 23), .ref (t + 24), .ref (t + 25), .ref (t + 26), .ref (t + 27), .int 0, .ref (t + 28), .ref (t + 29), .ref (t + 30), .int 0, .int 0])) := ab_other e39 (by omega) c35
  have c42 : h38[t+2]? = some (.inl (.int, 6002, .inl (fun _ => 0))) := ab_other e39 (by omega) c36
  have fr43 : ab_fr (in_MText t) h h38 := ab_fr_set fr37 e39 (by first | (show _ ∧ _; omega) | (show _ ∨ _; omega) | (show _ = _; omega) | (show _ ≤ _; omega))
  clear c34 c35 c36 fr37 e39
  try clear h32
  obtain ⟨y44, c45⟩ : ∃ f : Nat → Int32, h38[t+12]? = some (.inl (.int, 17, .inl f)) := ⟨_, c40⟩
  clear c40
  refine ab_aload_n d_MText_reads_38 rfl rfl rfl ?_
  refine ab_iconst (v := 0) d_MText_reads_39 (by decide) ?_
  refine ab_put (f := 21) d_MText_reads_40 c41 rfl (by decide) (k8 194 rfl rfl) rfl rfl (fun _ => rfl) (fun _ => rfl) (Nat.le_of_ble_eq_true rfl) ?_
  show ab_V _ _ _ _ _ _ _ 43 [some (.ref t), some (.ref tp), some (.int 0), none] [] (h38.set t (.inr (14, [.ref (t + 1), .int 0, .int 1, .ref (t + 2), .ref (t + 3), .ref (t + 4), .ref (t + 5), .ref (t + 6), .ref (t + 7), .int 0, .int 0, .int 0, .int 0, .ref (t + 8), .ref (t + 9), .ref (t + 10), .int 0, .ref (t + 11), .ref (t + 12), .ref (t + 13), .ref (t + 14), .int 0, .ref (t + 15), .ref (t + 16), .ref (t + 17), .ref (t + 18), .int 0, .ref (t + 19), .ref (t + 20), .int 0, .ref (t + 21), .ref (t + 22), .ref (t + 23), .ref (t + 24), .ref (t + 25), .ref (t + 26), .ref (t + 27), .int 0, .ref (t + 28), .ref (t + 29), .ref (t + 30), .int 0, .int 0])))
  refine ab_gen (fun h46 e47 => ?_)
  have c48 : h46[t+12]? = some (.inl (.int, 17, .inl y44)) := ab_other e47 (by omega) c45
  have c49 : h46[t]? = some (.inr (14, [.ref (t + 1), .int 0, .int 1, .ref (t + 2), .ref (t + 3), .ref (t + 4), .ref (t + 5), .ref (t + 6), .ref (t + 7), .int 0, .int 0, .int 0, .int 0, .ref (t + 8), .ref (t + 9), .ref (t + 10), .int 0, .ref (t + 11), .ref (t + 12), .ref (t + 13), .ref (t + 14), .int 0, .ref (t + 15), .ref (t + 16), .ref (t + 17), .ref (t + 18), .int 0, .ref (t + 19), .ref (t + 20), .int 0, .ref (t + 21), .ref (t + 22), .ref (t + 23), .ref (t + 24), .ref (t + 25), .ref (t + 26), .ref (t + 27), .int 0, .ref (t + 28), .ref (t + 29), .ref (t + 30), .int 0, .int 0])) := ab_self e47 c41
  have c50 : h46[t+2]? = some (.inl (.int, 6002, .inl (fun _ => 0))) := ab_other e47 (by omega) c42
  have fr51 : ab_fr (in_MText t) h h46 := ab_fr_set fr43 e47 (by first | (show _ ∧ _; omega) | (show _ ∨ _; omega) | (show _ = _; omega) | (show _ ≤ _; omega))
  clear c45 c41 c42 fr43 e47
  try clear h38
  refine ab_aload_n d_MText_reads_43 rfl rfl rfl ?_
  refine ab_iconst (v := 0) d_MText_reads_44 (by decide) ?_
  refine ab_put (f := 26) d_MText_reads_45 c49 rfl (by decide) (k8 205 rfl rfl) rfl rfl (fun _ => rfl) (fun _ => rfl) (Nat.le_of_ble_eq_true rfl) ?_
  show ab_V _ _ _ _ _ _ _ 48 [some (.ref t), some (.ref tp), some (.int 0), none] [] (h46.set t (.inr (14, [.ref (t + 1), .int 0, .int 1, .ref (t + 2), .ref (t + 3), .ref (t + 4), .ref (t + 5), .ref (t + 6), .ref (t + 7), .int 0, .int 0, .int 0, .int 0, .ref (t + 8), .ref (t + 9), .ref (t + 10), .int 0, .ref (t + 11), .ref (t + 12), .ref (t + 13), .ref (t + 14), .int 0, .ref (t + 15), .ref (t + 16), .ref (t + 17), .ref (t + 18), .int 0, .ref (t + 19), .ref (t + 20), .int 0, .ref (t + 21), .ref (t + 22), .ref (t + 23), .ref (t + 24), .ref (t + 25), .ref (t + 26), .ref (t + 27), .int 0, .ref (t + 28), .ref (t + 29), .ref (t + 30), .int 0, .int 0])))
  refine ab_gen (fun h52 e53 => ?_)
  have c54 : h52[t+12]? = some (.inl (.int, 17, .inl y44)) := ab_other e53 (by omega) c48
  have c55 : h52[t]? = some (.inr (14, [.ref (t + 1), .int 0, .int 1, .ref (t + 2), .ref (t + 3), .ref (t + 4), .ref (t + 5), .ref (t + 6), .ref (t + 7), .int 0, .int 0, .int 0, .int 0, .ref (t + 8), .ref (t + 9), .ref (t + 10), .int 0, .ref (t + 11), .ref (t + 12), .ref (t + 13), .ref (t + 14), .int 0, .ref (t + 15), .ref (t + 16), .ref (t + 17), .ref (t + 18), .int 0, .ref (t + 19), .ref (t + 20), .int 0, .ref (t + 21), .ref (t + 22), .ref (t + 23), .ref (t + 24), .ref (t + 25), .ref (t + 26), .ref (t + 27), .int 0, .ref (t + 28), .ref (t + 29), .ref (t + 30), .int 0, .int 0])) := ab_self e53 c49
  have c56 : h52[t+2]? = some (.inl (.int, 6002, .inl (fun _ => 0))) := ab_other e53 (by omega) c50
  have fr57 : ab_fr (in_MText t) h h52 := ab_fr_set fr51 e53 (by first | (show _ ∧ _; omega) | (show _ ∨ _; omega) | (show _ = _; omega) | (show _ ≤ _; omega))
  clear c48 c49 c50 fr51 e53
  try clear h46
  refine ab_aload_n d_MText_reads_48 rfl rfl rfl ?_
  refine ab_iconst (v := 0) d_MText_reads_49 (by decide) ?_
  refine ab_put (f := 29) d_MText_reads_50 c55 rfl (by decide) (k8 213 rfl rfl) rfl rfl (fun _ => rfl) (fun _ => rfl) (Nat.le_of_ble_eq_true rfl) ?_
  show ab_V _ _ _ _ _ _ _ 53 [some (.ref t), some (.ref tp), some (.int 0), none] [] (h52.set t (.inr (14, [.ref (t + 1), .int 0, .int 1, .ref (t + 2), .ref (t + 3), .ref (t + 4), .ref (t + 5), .ref (t + 6), .ref (t + 7), .int 0, .int 0, .int 0, .int 0, .ref (t + 8), .ref (t + 9), .ref (t + 10), .int 0, .ref (t + 11), .ref (t + 12), .ref (t + 13), .ref (t + 14), .int 0, .ref (t + 15), .ref (t + 16), .ref (t + 17), .ref (t + 18), .int 0, .ref (t + 19), .ref (t + 20), .int 0, .ref (t + 21), .ref (t + 22), .ref (t + 23), .ref (t + 24), .ref (t + 25), .ref (t + 26), .ref (t + 27), .int 0, .ref (t + 28), .ref (t + 29), .ref (t + 30), .int 0, .int 0])))
  refine ab_gen (fun h58 e59 => ?_)
  have c60 : h58[t+12]? = some (.inl (.int, 17, .inl y44)) := ab_other e59 (by omega) c54
  have c61 : h58[t]? = some (.inr (14, [.ref (t + 1), .int 0, .int 1, .ref (t + 2), .ref (t + 3), .ref (t + 4), .ref (t + 5), .ref (t + 6), .ref (t + 7), .int 0, .int 0, .int 0, .int 0, .ref (t + 8), .ref (t + 9), .ref (t + 10), .int 0, .ref (t + 11), .ref (t + 12), .ref (t + 13), .ref (t + 14), .int 0, .ref (t + 15), .ref (t + 16), .ref (t + 17), .ref (t + 18), .int 0, .ref (t + 19), .ref (t + 20), .int 0, .ref (t + 21), .ref (t + 22), .ref (t + 23), .ref (t + 24), .ref (t + 25), .ref (t + 26), .ref (t + 27), .int 0, .ref (t + 28), .ref (t + 29), .ref (t + 30), .int 0, .int 0])) := ab_self e59 c55
  have c62 : h58[t+2]? = some (.inl (.int, 6002, .inl (fun _ => 0))) := ab_other e59 (by omega) c56
  have fr63 : ab_fr (in_MText t) h h58 := ab_fr_set fr57 e59 (by first | (show _ ∧ _; omega) | (show _ ∨ _; omega) | (show _ = _; omega) | (show _ ≤ _; omega))
  clear c54 c55 c56 fr57 e59
  try clear h52
  refine ab_aload_n d_MText_reads_53 rfl rfl rfl ?_
  refine ab_get (f := 9) d_MText_reads_54 c61 rfl (by decide) (k8 172 rfl rfl) rfl ?_
  refine ab_if_ne (tgt := 145) d_MText_reads_57 (by decide) (fun q64 => by exact absurd q64 (by decide)) (fun q64 => ?_)
  refine ab_aload_n d_MText_reads_60 rfl rfl rfl ?_
  refine ab_get (f := 3) d_MText_reads_61 c61 rfl (by decide) (k8 162 rfl rfl) rfl ?_
  refine ab_aload_n d_MText_reads_64 rfl rfl rfl ?_
  refine ab_get (f := 11) d_MText_reads_65 c61 rfl (by decide) (k8 175 rfl rfl) rfl ?_
  refine ab_iald d_MText_reads_68 tI c62 (in_of (by decide) (by decide) (by decide)) ?_
  refine ab_topi (fun x65 ex65 => ?_)
  obtain rfl : x65 = 0 := ex65.trans rfl
  clear ex65
  refine ab_if_eq (tgt := 145) d_MText_reads_69 (by decide) (fun q66 => ?_) (fun q66 => by exact absurd (by decide) q66)
  refine ab_aload_n d_MText_reads_145 rfl rfl rfl ?_
  refine ab_get (f := 9) d_MText_reads_146 c61 rfl (by decide) (k8 172 rfl rfl) rfl ?_
  refine ab_if_ne (tgt := 156) d_MText_reads_149 (by decide) (fun q67 => by exact absurd q67 (by decide)) (fun q67 => ?_)
  refine ab_aload_n d_MText_reads_152 rfl rfl rfl ?_
  refine ab_callV_v (As := []) (rest := []) d_MText_reads_153 (r_MText_groupsThem c61) (ab_mkC s_MText_groupsThem (Nat.le_of_ble_eq_true rfl) (Nat.le_of_ble_eq_true rfl) (by decide) (by decide)) (k11 137 rfl rfl) i_MText_groupsThem v_MText_groupsThem c61 rfl rfl (Nat.le_of_ble_eq_true rfl) (fun h69 q68 => ?_)
  subst q68
  exact ab_vret d_MText_reads_156 rfl (Nat.le_refl _) (Nat.le_refl _) (by exact ⟨rfl, c61, fr63⟩)
set_option maxRecDepth 20000 in
set_option maxHeartbeats 2000000 in
theorem l_cp32 {Po : Outcome → List ab_E → Prop} {mc ms cells slots : Nat} {b17f : Nat → Int32} {v u : Nat} {t : Nat → Int32} (hvu : v + 9 < u ∨ u + 9 < v) (hcl : cells ≤ ({ frames := 0, cells := 0, slots := 0, locals := 0 } : Room).cells) (hsl : slots ≤ ({ frames := 0, cells := 0, slots := 0, locals := 0 } : Room).slots) : ∀ (n i : Nat) (h : List ab_E) (a17f : Nat → Int32), i + n = 32 → h[v]? = some (.inr (13, [.int (t 0), .int (t 1), .int (t 2), .int (t 3), .ref (v + 1), .ref (v + 2), .ref (v + 3), .ref (v + 4), .int (t 8), .ref (v + 5), .ref (v + 6), .ref (v + 7), .ref (v + 8), .int (t 13), .int (t 14), .int (t 15), .int (t 16), .ref (v + 9)])) → h[u]? = some (.inr (13, [.int (t 0), .int (t 1), .int (t 2), .int (t 3), .ref (u + 1), .ref (u + 2), .ref (u + 3), .ref (u + 4), .int (t 8), .ref (u + 5), .ref (u + 6), .ref (u + 7), .ref (u + 8), .int (t 13), .int (t 14), .int (t 15), .int (t 16), .ref (u + 9)])) → h[v + 9]? = some (.inl (.int, 32, .inl a17f)) → h[u + 9]? = some (.inl (.int, 32, .inl b17f)) → (∀ (h1 : List ab_E) (a17f1 : Nat → Int32), h1[v]? = some (.inr (13, [.int (t 0), .int (t 1), .int (t 2), .int (t 3), .ref (v + 1), .ref (v + 2), .ref (v + 3), .ref (v + 4), .int (t 8), .ref (v + 5), .ref (v + 6), .ref (v + 7), .ref (v + 8), .int (t 13), .int (t 14), .int (t 15), .int (t 16), .ref (v + 9)])) → h1[u]? = some (.inr (13, [.int (t 0), .int (t 1), .int (t 2), .int (t 3), .ref (u + 1), .ref (u + 2), .ref (u + 3), .ref (u + 4), .int (t 8), .ref (u + 5), .ref (u + 6), .ref (u + 7), .ref (u + 8), .int (t 13), .int (t 14), .int (t 15), .int (t 16), .ref (u + 9)])) → h1[v + 9]? = some (.inl (.int, 32, .inl a17f1)) → h1[u + 9]? = some (.inl (.int, 32, .inl b17f)) → ab_fr (fun j => j = v+9) h h1 → ab_V y_MWorld_copies { frames := 0, cells := 0, slots := 0, locals := 0 } Po mc ms cells slots 98 [some (.ref v), some (.ref u), some (.int (nI 32))] [] h1) →
    ab_V y_MWorld_copies { frames := 0, cells := 0, slots := 0, locals := 0 } Po mc ms cells slots 74 [some (.ref v), some (.ref u), some (.int (nI i))] [] h := by
  intro n
  induction n with
  | zero =>
    intro i h a17f hi po qo a17a b17a hk
    refine ab_iload_n d_MWorld_copies_74 rfl rfl ?_
    refine ab_bipush (v := 32) d_MWorld_copies_75 (by decide) ?_
    refine ab_icmp_ge (tgt := 98) d_MWorld_copies_77 (by decide) (fun q1 => ?_) (fun q1 => ?_)
    · have hiN : i = 32 := (by omega)
      subst hiN
      exact hk h a17f po qo a17a b17a (ab_fr_rf _ _)
    · exact absurd (nI_le (a := 32) (b := i) (by omega) (by omega)) q1
  | succ n ih =>
    intro i h a17f hi po qo a17a b17a hk
    refine ab_iload_n d_MWorld_copies_74 rfl rfl ?_
    refine ab_bipush (v := 32) d_MWorld_copies_75 (by decide) ?_
    refine ab_icmp_ge (tgt := 98) d_MWorld_copies_77 (by decide) (fun q1 => ?_) (fun q1 => ?_)
    · exact absurd ((nI_leI (a := 32) (b := i) (by omega) (by omega)).mp q1) (by omega)
    · refine ab_aload_n d_MWorld_copies_80 rfl rfl rfl ?_
      refine ab_get (f := 17) d_MWorld_copies_81 po rfl (by decide) (k9 136 rfl rfl) rfl ?_
      refine ab_iload_n d_MWorld_copies_84 rfl rfl ?_
      refine ab_aload_n d_MWorld_copies_85 rfl rfl rfl ?_
      refine ab_get (f := 17) d_MWorld_copies_86 qo rfl (by decide) (k9 136 rfl rfl) rfl ?_
      refine ab_iload_n d_MWorld_copies_89 rfl rfl ?_
      refine ab_iald d_MWorld_copies_90 tI b17a (vp_in_nI (by omega) (by decide)) ?_
      refine ab_iast d_MWorld_copies_91 tI a17a (vp_in_nI (by omega) (by decide)) ?_
      refine ab_gen (fun h2 e3 => ?_)
      have c4 : h2[v]? = some (.inr (13, [.int (t 0), .int (t 1), .int (t 2), .int (t 3), .ref (v + 1), .ref (v + 2), .ref (v + 3), .ref (v + 4), .int (t 8), .ref (v + 5), .ref (v + 6), .ref (v + 7), .ref (v + 8), .int (t 13), .int (t 14), .int (t 15), .int (t 16), .ref (v + 9)])) := ab_other e3 (by omega) po
      have c5 : h2[u]? = some (.inr (13, [.int (t 0), .int (t 1), .int (t 2), .int (t 3), .ref (u + 1), .ref (u + 2), .ref (u + 3), .ref (u + 4), .int (t 8), .ref (u + 5), .ref (u + 6), .ref (u + 7), .ref (u + 8), .int (t 13), .int (t 14), .int (t 15), .int (t 16), .ref (u + 9)])) := ab_other e3 (by omega) qo
      have c6 : h2[v+9]? = some (.inl (.int, 32, .inl (upd a17f ((nI i)).toNatClampNeg (b17f ((nI i)).toNatClampNeg)))) := ab_self e3 a17a
      have c7 : h2[u+9]? = some (.inl (.int, 32, .inl b17f)) := ab_other e3 (by omega) b17a
      have fr8 : ab_fr (fun j => j = v+9) h h2 := ab_fr_set (ab_fr_rf _ _) e3 (by first | (show _ = _; omega) | (show _ ∨ _; omega))
      clear e3
      obtain ⟨y9, c10⟩ : ∃ f : Nat → Int32, h2[v+9]? = some (.inl (.int, 32, .inl f)) := ⟨_, c6⟩
      clear c6
      obtain ⟨x11, ex11⟩ : ∃ q : Int32, q = nI i + 1 := ⟨_, rfl⟩
      refine ab_iinc (v := x11) (lv' := [some (.ref v), some (.ref u), some (.int x11)]) d_MWorld_copies_92 rfl (by rw [ex11]; rfl) (by decide) rfl ?_
      refine ab_goto (tgt := 74) d_MWorld_copies_95 (by decide) ?_
      subst ex11
      rw [nI_1]
      refine ab_widen (cells' := cells) (slots' := slots) (by first | exact Nat.le_refl _ | (show _ ≤ _; omega)) (by first | exact Nat.le_refl _ | (show _ ≤ _; omega)) ?_
      exact ih (i + 1) h2 y9 (by omega) c4 c5 c10 c7 (fun h1 a17f1 q0 q1 q2 q3 qf => hk h1 a17f1 q0 q1 q2 q3 (ab_fr_tr fr8 qf))
set_option maxRecDepth 20000 in
set_option maxHeartbeats 2000000 in
theorem l_cp256 {Po : Outcome → List ab_E → Prop} {mc ms cells slots : Nat} {b4f : Nat → Int32} {b5f : Nat → Int32} {b6f : Nat → Int32} {v u : Nat} {t : Nat → Int32} (hvu : v + 9 < u ∨ u + 9 < v) (hcl : cells ≤ ({ frames := 0, cells := 0, slots := 0, locals := 0 } : Room).cells) (hsl : slots ≤ ({ frames := 0, cells := 0, slots := 0, locals := 0 } : Room).slots) : ∀ (n i : Nat) (h : List ab_E) (a4f : Nat → Int32) (a5f : Nat → Int32) (a6f : Nat → Int32), i + n = 256 → h[v]? = some (.inr (13, [.int (t 0), .int (t 1), .int (t 2), .int (t 3), .ref (v + 1), .ref (v + 2), .ref (v + 3), .ref (v + 4), .int (t 8), .ref (v + 5), .ref (v + 6), .ref (v + 7), .ref (v + 8), .int (t 13), .int (t 14), .int (t 15), .int (t 16), .ref (v + 9)])) → h[u]? = some (.inr (13, [.int (t 0), .int (t 1), .int (t 2), .int (t 3), .ref (u + 1), .ref (u + 2), .ref (u + 3), .ref (u + 4), .int (t 8), .ref (u + 5), .ref (u + 6), .ref (u + 7), .ref (u + 8), .int (t 13), .int (t 14), .int (t 15), .int (t 16), .ref (u + 9)])) → h[v + 1]? = some (.inl (.int, 256, .inl a4f)) → h[v + 2]? = some (.inl (.boolean, 256, .inl a5f)) → h[v + 3]? = some (.inl (.int, 256, .inl a6f)) → h[u + 1]? = some (.inl (.int, 256, .inl b4f)) → h[u + 2]? = some (.inl (.boolean, 256, .inl b5f)) → h[u + 3]? = some (.inl (.int, 256, .inl b6f)) → (∀ (h1 : List ab_E) (a4f1 : Nat → Int32) (a5f1 : Nat → Int32) (a6f1 : Nat → Int32), h1[v]? = some (.inr (13, [.int (t 0), .int (t 1), .int (t 2), .int (t 3), .ref (v + 1), .ref (v + 2), .ref (v + 3), .ref (v + 4), .int (t 8), .ref (v + 5), .ref (v + 6), .ref (v + 7), .ref (v + 8), .int (t 13), .int (t 14), .int (t 15), .int (t 16), .ref (v + 9)])) → h1[u]? = some (.inr (13, [.int (t 0), .int (t 1), .int (t 2), .int (t 3), .ref (u + 1), .ref (u + 2), .ref (u + 3), .ref (u + 4), .int (t 8), .ref (u + 5), .ref (u + 6), .ref (u + 7), .ref (u + 8), .int (t 13), .int (t 14), .int (t 15), .int (t 16), .ref (u + 9)])) → h1[v + 1]? = some (.inl (.int, 256, .inl a4f1)) → h1[v + 2]? = some (.inl (.boolean, 256, .inl a5f1)) → h1[v + 3]? = some (.inl (.int, 256, .inl a6f1)) → h1[u + 1]? = some (.inl (.int, 256, .inl b4f)) → h1[u + 2]? = some (.inl (.boolean, 256, .inl b5f)) → h1[u + 3]? = some (.inl (.int, 256, .inl b6f)) → ab_fr (fun j => j = v+1 ∨ j = v+2 ∨ j = v+3) h h1 → ab_V y_MWorld_copies { frames := 0, cells := 0, slots := 0, locals := 0 } Po mc ms cells slots 149 [some (.ref v), some (.ref u), some (.int (nI 256))] [] h1) →
    ab_V y_MWorld_copies { frames := 0, cells := 0, slots := 0, locals := 0 } Po mc ms cells slots 100 [some (.ref v), some (.ref u), some (.int (nI i))] [] h := by
  intro n
  induction n with
  | zero =>
    intro i h a4f a5f a6f hi po qo a4a a5a a6a b4a b5a b6a hk
    refine ab_iload_n d_MWorld_copies_100 rfl rfl ?_
    refine ab_sipush (v := 256) d_MWorld_copies_101 (by decide) ?_
    refine ab_icmp_ge (tgt := 149) d_MWorld_copies_104 (by decide) (fun q1 => ?_) (fun q1 => ?_)
    · have hiN : i = 256 := (by omega)
      subst hiN
      exact hk h a4f a5f a6f po qo a4a a5a a6a b4a b5a b6a (ab_fr_rf _ _)
    · exact absurd (nI_le (a := 256) (b := i) (by omega) (by omega)) q1
  | succ n ih =>
    intro i h a4f a5f a6f hi po qo a4a a5a a6a b4a b5a b6a hk
    refine ab_iload_n d_MWorld_copies_100 rfl rfl ?_
    refine ab_sipush (v := 256) d_MWorld_copies_101 (by decide) ?_
    refine ab_icmp_ge (tgt := 149) d_MWorld_copies_104 (by decide) (fun q1 => ?_) (fun q1 => ?_)
    · exact absurd ((nI_leI (a := 256) (b := i) (by omega) (by omega)).mp q1) (by omega)
    · refine ab_aload_n d_MWorld_copies_107 rfl rfl rfl ?_
      refine ab_get (f := 4) d_MWorld_copies_108 po rfl (by decide) (k9 98 rfl rfl) rfl ?_
      refine ab_iload_n d_MWorld_copies_111 rfl rfl ?_
      refine ab_aload_n d_MWorld_copies_112 rfl rfl rfl ?_
      refine ab_get (f := 4) d_MWorld_copies_113 qo rfl (by decide) (k9 98 rfl rfl) rfl ?_
      refine ab_iload_n d_MWorld_copies_116 rfl rfl ?_
      refine ab_iald d_MWorld_copies_117 tI b4a (vp_in_nI (by omega) (by decide)) ?_
      refine ab_iast d_MWorld_copies_118 tI a4a (vp_in_nI (by omega) (by decide)) ?_
      refine ab_gen (fun h2 e3 => ?_)
      have c4 : h2[v]? = some (.inr (13, [.int (t 0), .int (t 1), .int (t 2), .int (t 3), .ref (v + 1), .ref (v + 2), .ref (v + 3), .ref (v + 4), .int (t 8), .ref (v + 5), .ref (v + 6), .ref (v + 7), .ref (v + 8), .int (t 13), .int (t 14), .int (t 15), .int (t 16), .ref (v + 9)])) := ab_other e3 (by omega) po
      have c5 : h2[u]? = some (.inr (13, [.int (t 0), .int (t 1), .int (t 2), .int (t 3), .ref (u + 1), .ref (u + 2), .ref (u + 3), .ref (u + 4), .int (t 8), .ref (u + 5), .ref (u + 6), .ref (u + 7), .ref (u + 8), .int (t 13), .int (t 14), .int (t 15), .int (t 16), .ref (u + 9)])) := ab_other e3 (by omega) qo
      have c6 : h2[v+1]? = some (.inl (.int, 256, .inl (upd a4f ((nI i)).toNatClampNeg (b4f ((nI i)).toNatClampNeg)))) := ab_self e3 a4a
      have c7 : h2[v+2]? = some (.inl (.boolean, 256, .inl a5f)) := ab_other e3 (by omega) a5a
      have c8 : h2[v+3]? = some (.inl (.int, 256, .inl a6f)) := ab_other e3 (by omega) a6a
      have c9 : h2[u+1]? = some (.inl (.int, 256, .inl b4f)) := ab_other e3 (by omega) b4a
      have c10 : h2[u+2]? = some (.inl (.boolean, 256, .inl b5f)) := ab_other e3 (by omega) b5a
      have c11 : h2[u+3]? = some (.inl (.int, 256, .inl b6f)) := ab_other e3 (by omega) b6a
      have fr12 : ab_fr (fun j => j = v+1 ∨ j = v+2 ∨ j = v+3) h h2 := ab_fr_set (ab_fr_rf _ _) e3 (by first | (show _ = _; omega) | (show _ ∨ _; omega))
      clear e3
      obtain ⟨y13, c14⟩ : ∃ f : Nat → Int32, h2[v+1]? = some (.inl (.int, 256, .inl f)) := ⟨_, c6⟩
      clear c6
      refine ab_aload_n d_MWorld_copies_119 rfl rfl rfl ?_
      refine ab_get (f := 5) d_MWorld_copies_120 c4 rfl (by decide) (k9 100 rfl rfl) rfl ?_
      refine ab_iload_n d_MWorld_copies_123 rfl rfl ?_
      refine ab_aload_n d_MWorld_copies_124 rfl rfl rfl ?_
      refine ab_get (f := 5) d_MWorld_copies_125 c5 rfl (by decide) (k9 100 rfl rfl) rfl ?_
      refine ab_iload_n d_MWorld_copies_128 rfl rfl ?_
      refine ab_zald d_MWorld_copies_129 tZ c10 (vp_in_nI (by omega) (by decide)) ?_
      refine ab_zast d_MWorld_copies_130 tZ c7 (vp_in_nI (by omega) (by decide)) ?_
      refine ab_gen (fun h15 e16 => ?_)
      have c17 : h15[v]? = some (.inr (13, [.int (t 0), .int (t 1), .int (t 2), .int (t 3), .ref (v + 1), .ref (v + 2), .ref (v + 3), .ref (v + 4), .int (t 8), .ref (v + 5), .ref (v + 6), .ref (v + 7), .ref (v + 8), .int (t 13), .int (t 14), .int (t 15), .int (t 16), .ref (v + 9)])) := ab_other e16 (by omega) c4
      have c18 : h15[u]? = some (.inr (13, [.int (t 0), .int (t 1), .int (t 2), .int (t 3), .ref (u + 1), .ref (u + 2), .ref (u + 3), .ref (u + 4), .int (t 8), .ref (u + 5), .ref (u + 6), .ref (u + 7), .ref (u + 8), .int (t 13), .int (t 14), .int (t 15), .int (t 16), .ref (u + 9)])) := ab_other e16 (by omega) c5
      have c19 : h15[v+1]? = some (.inl (.int, 256, .inl y13)) := ab_other e16 (by omega) c14
      have c20 : h15[v+2]? = some (.inl (.boolean, 256, .inl (upd a5f ((nI i)).toNatClampNeg (vp_nar .boolean (b5f ((nI i)).toNatClampNeg))))) := ab_self e16 c7
      have c21 : h15[v+3]? = some (.inl (.int, 256, .inl a6f)) := ab_other e16 (by omega) c8
      have c22 : h15[u+1]? = some (.inl (.int, 256, .inl b4f)) := ab_other e16 (by omega) c9
      have c23 : h15[u+2]? = some (.inl (.boolean, 256, .inl b5f)) := ab_other e16 (by omega) c10
      have c24 : h15[u+3]? = some (.inl (.int, 256, .inl b6f)) := ab_other e16 (by omega) c11
      have fr25 : ab_fr (fun j => j = v+1 ∨ j = v+2 ∨ j = v+3) h h15 := ab_fr_set fr12 e16 (by first | (show _ = _; omega) | (show _ ∨ _; omega))
      clear c4 c5 c14 c7 c8 c9 c10 c11 fr12 e16
      try clear h2
      obtain ⟨y26, c27⟩ : ∃ f : Nat → Int32, h15[v+2]? = some (.inl (.boolean, 256, .inl f)) := ⟨_, c20⟩
      clear c20
      refine ab_aload_n d_MWorld_copies_131 rfl rfl rfl ?_
      refine ab_get (f := 6) d_MWorld_copies_132 c17 rfl (by decide) (k9 104 rfl rfl) rfl ?_
      refine ab_iload_n d_MWorld_copies_135 rfl rfl ?_
      refine ab_aload_n d_MWorld_copies_136 rfl rfl rfl ?_
      refine ab_get (f := 6) d_MWorld_copies_137 c18 rfl (by decide) (k9 104 rfl rfl) rfl ?_
      refine ab_iload_n d_MWorld_copies_140 rfl rfl ?_
      refine ab_iald d_MWorld_copies_141 tI c24 (vp_in_nI (by omega) (by decide)) ?_
      refine ab_iast d_MWorld_copies_142 tI c21 (vp_in_nI (by omega) (by decide)) ?_
      refine ab_gen (fun h28 e29 => ?_)
      have c30 : h28[v]? = some (.inr (13, [.int (t 0), .int (t 1), .int (t 2), .int (t 3), .ref (v + 1), .ref (v + 2), .ref (v + 3), .ref (v + 4), .int (t 8), .ref (v + 5), .ref (v + 6), .ref (v + 7), .ref (v + 8), .int (t 13), .int (t 14), .int (t 15), .int (t 16), .ref (v + 9)])) := ab_other e29 (by omega) c17
      have c31 : h28[u]? = some (.inr (13, [.int (t 0), .int (t 1), .int (t 2), .int (t 3), .ref (u + 1), .ref (u + 2), .ref (u + 3), .ref (u + 4), .int (t 8), .ref (u + 5), .ref (u + 6), .ref (u + 7), .ref (u + 8), .int (t 13), .int (t 14), .int (t 15), .int (t 16), .ref (u + 9)])) := ab_other e29 (by omega) c18
      have c32 : h28[v+1]? = some (.inl (.int, 256, .inl y13)) := ab_other e29 (by omega) c19
      have c33 : h28[v+2]? = some (.inl (.boolean, 256, .inl y26)) := ab_other e29 (by omega) c27
      have c34 : h28[v+3]? = some (.inl (.int, 256, .inl (upd a6f ((nI i)).toNatClampNeg (b6f ((nI i)).toNatClampNeg)))) := ab_self e29 c21
      have c35 : h28[u+1]? = some (.inl (.int, 256, .inl b4f)) := ab_other e29 (by omega) c22
      have c36 : h28[u+2]? = some (.inl (.boolean, 256, .inl b5f)) := ab_other e29 (by omega) c23
      have c37 : h28[u+3]? = some (.inl (.int, 256, .inl b6f)) := ab_other e29 (by omega) c24
      have fr38 : ab_fr (fun j => j = v+1 ∨ j = v+2 ∨ j = v+3) h h28 := ab_fr_set fr25 e29 (by first | (show _ = _; omega) | (show _ ∨ _; omega))
      clear c17 c18 c19 c27 c21 c22 c23 c24 fr25 e29
      try clear h15
      obtain ⟨y39, c40⟩ : ∃ f : Nat → Int32, h28[v+3]? = some (.inl (.int, 256, .inl f)) := ⟨_, c34⟩
      clear c34
      obtain ⟨x41, ex41⟩ : ∃ q : Int32, q = nI i + 1 := ⟨_, rfl⟩
      refine ab_iinc (v := x41) (lv' := [some (.ref v), some (.ref u), some (.int x41)]) d_MWorld_copies_143 rfl (by rw [ex41]; rfl) (by decide) rfl ?_
      refine ab_goto (tgt := 100) d_MWorld_copies_146 (by decide) ?_
      subst ex41
      rw [nI_1]
      refine ab_widen (cells' := cells) (slots' := slots) (by first | exact Nat.le_refl _ | (show _ ≤ _; omega)) (by first | exact Nat.le_refl _ | (show _ ≤ _; omega)) ?_
      exact ih (i + 1) h28 y13 y26 y39 (by omega) c30 c31 c32 c33 c40 c35 c36 c37 (fun h1 a4f1 a5f1 a6f1 q0 q1 q2 q3 q4 q5 q6 q7 qf => hk h1 a4f1 a5f1 a6f1 q0 q1 q2 q3 q4 q5 q6 q7 (ab_fr_tr fr38 qf))
set_option maxRecDepth 20000 in
set_option maxHeartbeats 2000000 in
theorem l_cp12288 {Po : Outcome → List ab_E → Prop} {mc ms cells slots : Nat} {b7f : Nat → Int32} {v u : Nat} {t : Nat → Int32} (hvu : v + 9 < u ∨ u + 9 < v) (hcl : cells ≤ ({ frames := 0, cells := 0, slots := 0, locals := 0 } : Room).cells) (hsl : slots ≤ ({ frames := 0, cells := 0, slots := 0, locals := 0 } : Room).slots) : ∀ (n i : Nat) (h : List ab_E) (a7f : Nat → Int32), i + n = 12288 → h[v]? = some (.inr (13, [.int (t 0), .int (t 1), .int (t 2), .int (t 3), .ref (v + 1), .ref (v + 2), .ref (v + 3), .ref (v + 4), .int (t 8), .ref (v + 5), .ref (v + 6), .ref (v + 7), .ref (v + 8), .int (t 13), .int (t 14), .int (t 15), .int (t 16), .ref (v + 9)])) → h[u]? = some (.inr (13, [.int (t 0), .int (t 1), .int (t 2), .int (t 3), .ref (u + 1), .ref (u + 2), .ref (u + 3), .ref (u + 4), .int (t 8), .ref (u + 5), .ref (u + 6), .ref (u + 7), .ref (u + 8), .int (t 13), .int (t 14), .int (t 15), .int (t 16), .ref (u + 9)])) → h[v + 4]? = some (.inl (.int, 12288, .inl a7f)) → h[u + 4]? = some (.inl (.int, 12288, .inl b7f)) → (∀ (h1 : List ab_E) (a7f1 : Nat → Int32), h1[v]? = some (.inr (13, [.int (t 0), .int (t 1), .int (t 2), .int (t 3), .ref (v + 1), .ref (v + 2), .ref (v + 3), .ref (v + 4), .int (t 8), .ref (v + 5), .ref (v + 6), .ref (v + 7), .ref (v + 8), .int (t 13), .int (t 14), .int (t 15), .int (t 16), .ref (v + 9)])) → h1[u]? = some (.inr (13, [.int (t 0), .int (t 1), .int (t 2), .int (t 3), .ref (u + 1), .ref (u + 2), .ref (u + 3), .ref (u + 4), .int (t 8), .ref (u + 5), .ref (u + 6), .ref (u + 7), .ref (u + 8), .int (t 13), .int (t 14), .int (t 15), .int (t 16), .ref (u + 9)])) → h1[v + 4]? = some (.inl (.int, 12288, .inl a7f1)) → h1[u + 4]? = some (.inl (.int, 12288, .inl b7f)) → ab_fr (fun j => j = v+4) h h1 → ab_V y_MWorld_copies { frames := 0, cells := 0, slots := 0, locals := 0 } Po mc ms cells slots 176 [some (.ref v), some (.ref u), some (.int (nI 12288))] [] h1) →
    ab_V y_MWorld_copies { frames := 0, cells := 0, slots := 0, locals := 0 } Po mc ms cells slots 151 [some (.ref v), some (.ref u), some (.int (nI i))] [] h := by
  intro n
  induction n with
  | zero =>
    intro i h a7f hi po qo a7a b7a hk
    refine ab_iload_n d_MWorld_copies_151 rfl rfl ?_
    refine ab_sipush (v := 12288) d_MWorld_copies_152 (by decide) ?_
    refine ab_icmp_ge (tgt := 176) d_MWorld_copies_155 (by decide) (fun q1 => ?_) (fun q1 => ?_)
    · have hiN : i = 12288 := (by omega)
      subst hiN
      exact hk h a7f po qo a7a b7a (ab_fr_rf _ _)
    · exact absurd (nI_le (a := 12288) (b := i) (by omega) (by omega)) q1
  | succ n ih =>
    intro i h a7f hi po qo a7a b7a hk
    refine ab_iload_n d_MWorld_copies_151 rfl rfl ?_
    refine ab_sipush (v := 12288) d_MWorld_copies_152 (by decide) ?_
    refine ab_icmp_ge (tgt := 176) d_MWorld_copies_155 (by decide) (fun q1 => ?_) (fun q1 => ?_)
    · exact absurd ((nI_leI (a := 12288) (b := i) (by omega) (by omega)).mp q1) (by omega)
    · refine ab_aload_n d_MWorld_copies_158 rfl rfl rfl ?_
      refine ab_get (f := 7) d_MWorld_copies_159 po rfl (by decide) (k9 108 rfl rfl) rfl ?_
      refine ab_iload_n d_MWorld_copies_162 rfl rfl ?_
      refine ab_aload_n d_MWorld_copies_163 rfl rfl rfl ?_
      refine ab_get (f := 7) d_MWorld_copies_164 qo rfl (by decide) (k9 108 rfl rfl) rfl ?_
      refine ab_iload_n d_MWorld_copies_167 rfl rfl ?_
      refine ab_iald d_MWorld_copies_168 tI b7a (vp_in_nI (by omega) (by decide)) ?_
      refine ab_iast d_MWorld_copies_169 tI a7a (vp_in_nI (by omega) (by decide)) ?_
      refine ab_gen (fun h2 e3 => ?_)
      have c4 : h2[v]? = some (.inr (13, [.int (t 0), .int (t 1), .int (t 2), .int (t 3), .ref (v + 1), .ref (v + 2), .ref (v + 3), .ref (v + 4), .int (t 8), .ref (v + 5), .ref (v + 6), .ref (v + 7), .ref (v + 8), .int (t 13), .int (t 14), .int (t 15), .int (t 16), .ref (v + 9)])) := ab_other e3 (by omega) po
      have c5 : h2[u]? = some (.inr (13, [.int (t 0), .int (t 1), .int (t 2), .int (t 3), .ref (u + 1), .ref (u + 2), .ref (u + 3), .ref (u + 4), .int (t 8), .ref (u + 5), .ref (u + 6), .ref (u + 7), .ref (u + 8), .int (t 13), .int (t 14), .int (t 15), .int (t 16), .ref (u + 9)])) := ab_other e3 (by omega) qo
      have c6 : h2[v+4]? = some (.inl (.int, 12288, .inl (upd a7f ((nI i)).toNatClampNeg (b7f ((nI i)).toNatClampNeg)))) := ab_self e3 a7a
      have c7 : h2[u+4]? = some (.inl (.int, 12288, .inl b7f)) := ab_other e3 (by omega) b7a
      have fr8 : ab_fr (fun j => j = v+4) h h2 := ab_fr_set (ab_fr_rf _ _) e3 (by first | (show _ = _; omega) | (show _ ∨ _; omega))
      clear e3
      obtain ⟨y9, c10⟩ : ∃ f : Nat → Int32, h2[v+4]? = some (.inl (.int, 12288, .inl f)) := ⟨_, c6⟩
      clear c6
      obtain ⟨x11, ex11⟩ : ∃ q : Int32, q = nI i + 1 := ⟨_, rfl⟩
      refine ab_iinc (v := x11) (lv' := [some (.ref v), some (.ref u), some (.int x11)]) d_MWorld_copies_170 rfl (by rw [ex11]; rfl) (by decide) rfl ?_
      refine ab_goto (tgt := 151) d_MWorld_copies_173 (by decide) ?_
      subst ex11
      rw [nI_1]
      refine ab_widen (cells' := cells) (slots' := slots) (by first | exact Nat.le_refl _ | (show _ ≤ _; omega)) (by first | exact Nat.le_refl _ | (show _ ≤ _; omega)) ?_
      exact ih (i + 1) h2 y9 (by omega) c4 c5 c10 c7 (fun h1 a7f1 q0 q1 q2 q3 qf => hk h1 a7f1 q0 q1 q2 q3 (ab_fr_tr fr8 qf))
set_option maxRecDepth 20000 in
set_option maxHeartbeats 2000000 in
theorem r_MWorld_copies {h : List ab_E} {v : Nat} {s : Nat → Int32} {a : Nat → Nat → Int32} {u : Nat} {t : Nat → Int32} {d : Nat → Nat → Int32}  (hv : at_MWorld h v s a) (hu : at_MWorld h u t d) (hvu : v + 9 < u ∨ u + 9 < v) (hp : t 8 = 0) : ab_M y_MWorld_copies { frames := 0, cells := 0, slots := 0, locals := 0 } [.ref v, .ref u] h (ab_A none (fun h1 => ∃ a1, at_MWorld h1 v t a1 ∧ ab_fr (in_MWorld v) h h1)) := by
  have hv0 := hv; obtain ⟨go, g4, g5, g6, g7, g9, g10, g11, g12, g17⟩ := hv
  have hu0 := hu; obtain ⟨fo, f4, f5, f6, f7, f9, f10, f11, f12, f17⟩ := hu
  refine ab_of2 (lv := [some (.ref v), some (.ref u), none]) 1 rfl rfl (Nat.le_of_ble_eq_true rfl) ?_
  refine ab_aload_n d_MWorld_copies_0 rfl rfl rfl ?_
  refine ab_aload_n d_MWorld_copies_1 rfl rfl rfl ?_
  refine ab_get (f := 0) d_MWorld_copies_2 fo rfl (by decide) (k9 87 rfl rfl) rfl ?_
  refine ab_put (f := 0) d_MWorld_copies_5 go rfl (by decide) (k9 87 rfl rfl) rfl rfl (fun _ => rfl) (fun _ => rfl) (Nat.le_of_ble_eq_true rfl) ?_
  show ab_V _ _ _ _ _ _ _ 8 [some (.ref v), some (.ref u), none] [] (h.set v (.inr (13, [.int (t 0), .int (s 1), .int (s 2), .int (s 3), .ref (v + 1), .ref (v + 2), .ref (v + 3), .ref (v + 4), .int (s 8), .ref (v + 5), .ref (v + 6), .ref (v + 7), .ref (v + 8), .int (s 13), .int (s 14), .int (s 15), .int (s 16), .ref (v + 9)])))
  refine ab_gen (fun h1 e2 => ?_)
  have c3 : h1[v]? = some (.inr (13, [.int (t 0), .int (s 1), .int (s 2), .int (s 3), .ref (v + 1), .ref (v + 2), .ref (v + 3), .ref (v + 4), .int (s 8), .ref (v + 5), .ref (v + 6), .ref (v + 7), .ref (v + 8), .int (s 13), .int (s 14), .int (s 15), .int (s 16), .ref (v + 9)])) := ab_self e2 go
  have c4 : h1[v+1]? = some (.inl (.int, 256, .inl (a 4))) := ab_other e2 (by omega) g4
  have c5 : h1[v+2]? = some (.inl (.boolean, 256, .inl (a 5))) := ab_other e2 (by omega) g5
  have c6 : h1[v+3]? = some (.inl (.int, 256, .inl (a 6))) := ab_other e2 (by omega) g6
  have c7 : h1[v+4]? = some (.inl (.int, 12288, .inl (a 7))) := ab_other e2 (by omega) g7
  have c8 : h1[v+5]? = some (.inl (.int, 256, .inl (a 9))) := ab_other e2 (by omega) g9
  have c9 : h1[v+6]? = some (.inl (.int, 256, .inl (a 10))) := ab_other e2 (by omega) g10
  have c10 : h1[v+7]? = some (.inl (.int, 256, .inl (a 11))) := ab_other e2 (by omega) g11
  have c11 : h1[v+8]? = some (.inl (.int, 1024, .inl (a 12))) := ab_other e2 (by omega) g12
  have c12 : h1[v+9]? = some (.inl (.int, 32, .inl (a 17))) := ab_other e2 (by omega) g17
  have c13 : h1[u]? = some (.inr (13, [.int (t 0), .int (t 1), .int (t 2), .int (t 3), .ref (u + 1), .ref (u + 2), .ref (u + 3), .ref (u + 4), .int (t 8), .ref (u + 5), .ref (u + 6), .ref (u + 7), .ref (u + 8), .int (t 13), .int (t 14), .int (t 15), .int (t 16), .ref (u + 9)])) := ab_other e2 (by omega) fo
  have c14 : h1[u+1]? = some (.inl (.int, 256, .inl (d 4))) := ab_other e2 (by omega) f4
  have c15 : h1[u+2]? = some (.inl (.boolean, 256, .inl (d 5))) := ab_other e2 (by omega) f5
  have c16 : h1[u+3]? = some (.inl (.int, 256, .inl (d 6))) := ab_other e2 (by omega) f6
  have c17 : h1[u+4]? = some (.inl (.int, 12288, .inl (d 7))) := ab_other e2 (by omega) f7
  have c18 : h1[u+5]? = some (.inl (.int, 256, .inl (d 9))) := ab_other e2 (by omega) f9
  have c19 : h1[u+6]? = some (.inl (.int, 256, .inl (d 10))) := ab_other e2 (by omega) f10
  have c20 : h1[u+7]? = some (.inl (.int, 256, .inl (d 11))) := ab_other e2 (by omega) f11
  have c21 : h1[u+8]? = some (.inl (.int, 1024, .inl (d 12))) := ab_other e2 (by omega) f12
  have c22 : h1[u+9]? = some (.inl (.int, 32, .inl (d 17))) := ab_other e2 (by omega) f17
  have fr23 : ab_fr (in_MWorld v) h h1 := ab_fr_set (ab_fr_rf _ _) e2 (by first | (show _ ∧ _; omega) | (show _ ∨ _; omega) | (show _ = _; omega) | (show _ ≤ _; omega))
  clear f4 f5 f6 f7 f9 f10 f11 f12 f17 e2
  refine ab_aload_n d_MWorld_copies_8 rfl rfl rfl ?_
  refine ab_aload_n d_MWorld_copies_9 rfl rfl rfl ?_
  refine ab_get (f := 1) d_MWorld_copies_10 c13 rfl (by decide) (k9 90 rfl rfl) rfl ?_
  refine ab_put (f := 1) d_MWorld_copies_13 c3 rfl (by decide) (k9 90 rfl rfl) rfl rfl (fun _ => rfl) (fun _ => rfl) (Nat.le_of_ble_eq_true rfl) ?_
  show ab_V _ _ _ _ _ _ _ 16 [some (.ref v), some (.ref u), none] [] (h1.set v (.inr (13, [.int (t 0), .int (t 1), .int (s 2), .int (s 3), .ref (v + 1), .ref (v + 2), .ref (v + 3), .ref (v + 4), .int (s 8), .ref (v + 5), .ref (v + 6), .ref (v + 7), .ref (v + 8), .int (s 13), .int (s 14), .int (s 15), .int (s 16), .ref (v + 9)])))
  refine ab_gen (fun h24 e25 => ?_)
  have c26 : h24[v]? = some (.inr (13, [.int (t 0), .int (t 1), .int (s 2), .int (s 3), .ref (v + 1), .ref (v + 2), .ref (v + 3), .ref (v + 4), .int (s 8), .ref (v + 5), .ref (v + 6), .ref (v + 7), .ref (v + 8), .int (s 13), .int (s 14), .int (s 15), .int (s 16), .ref (v + 9)])) := ab_self e25 c3
  have c27 : h24[v+1]? = some (.inl (.int, 256, .inl (a 4))) := ab_other e25 (by omega) c4
  have c28 : h24[v+2]? = some (.inl (.boolean, 256, .inl (a 5))) := ab_other e25 (by omega) c5
  have c29 : h24[v+3]? = some (.inl (.int, 256, .inl (a 6))) := ab_other e25 (by omega) c6
  have c30 : h24[v+4]? = some (.inl (.int, 12288, .inl (a 7))) := ab_other e25 (by omega) c7
  have c31 : h24[v+5]? = some (.inl (.int, 256, .inl (a 9))) := ab_other e25 (by omega) c8
  have c32 : h24[v+6]? = some (.inl (.int, 256, .inl (a 10))) := ab_other e25 (by omega) c9
  have c33 : h24[v+7]? = some (.inl (.int, 256, .inl (a 11))) := ab_other e25 (by omega) c10
  have c34 : h24[v+8]? = some (.inl (.int, 1024, .inl (a 12))) := ab_other e25 (by omega) c11
  have c35 : h24[v+9]? = some (.inl (.int, 32, .inl (a 17))) := ab_other e25 (by omega) c12
  have c36 : h24[u]? = some (.inr (13, [.int (t 0), .int (t 1), .int (t 2), .int (t 3), .ref (u + 1), .ref (u + 2), .ref (u + 3), .ref (u + 4), .int (t 8), .ref (u + 5), .ref (u + 6), .ref (u + 7), .ref (u + 8), .int (t 13), .int (t 14), .int (t 15), .int (t 16), .ref (u + 9)])) := ab_other e25 (by omega) c13
  have c37 : h24[u+1]? = some (.inl (.int, 256, .inl (d 4))) := ab_other e25 (by omega) c14
  have c38 : h24[u+2]? = some (.inl (.boolean, 256, .inl (d 5))) := ab_other e25 (by omega) c15
  have c39 : h24[u+3]? = some (.inl (.int, 256, .inl (d 6))) := ab_other e25 (by omega) c16
  have c40 : h24[u+4]? = some (.inl (.int, 12288, .inl (d 7))) := ab_other e25 (by omega) c17
  have c41 : h24[u+5]? = some (.inl (.int, 256, .inl (d 9))) := ab_other e25 (by omega) c18
  have c42 : h24[u+6]? = some (.inl (.int, 256, .inl (d 10))) := ab_other e25 (by omega) c19
  have c43 : h24[u+7]? = some (.inl (.int, 256, .inl (d 11))) := ab_other e25 (by omega) c20
  have c44 : h24[u+8]? = some (.inl (.int, 1024, .inl (d 12))) := ab_other e25 (by omega) c21
  have c45 : h24[u+9]? = some (.inl (.int, 32, .inl (d 17))) := ab_other e25 (by omega) c22
  have fr46 : ab_fr (in_MWorld v) h h24 := ab_fr_set fr23 e25 (by first | (show _ ∧ _; omega) | (show _ ∨ _; omega) | (show _ = _; omega) | (show _ ≤ _; omega))
  clear c3 c4 c5 c6 c7 c8 c9 c10 c11 c12 c13 c14 c15 c16 c17 c18 c19 c20 c21 c22 fr23 e25
  try clear h1
  refine ab_aload_n d_MWorld_copies_16 rfl rfl rfl ?_
  refine ab_aload_n d_MWorld_copies_17 rfl rfl rfl ?_
  refine ab_get (f := 2) d_MWorld_copies_18 c36 rfl (by decide) (k9 93 rfl rfl) rfl ?_
  refine ab_put (f := 2) d_MWorld_copies_21 c26 rfl (by decide) (k9 93 rfl rfl) rfl rfl (fun _ => rfl) (fun _ => rfl) (Nat.le_of_ble_eq_true rfl) ?_
  show ab_V _ _ _ _ _ _ _ 24 [some (.ref v), some (.ref u), none] [] (h24.set v (.inr (13, [.int (t 0), .int (t 1), .int (t 2), .int (s 3), .ref (v + 1), .ref (v + 2), .ref (v + 3), .ref (v + 4), .int (s 8), .ref (v + 5), .ref (v + 6), .ref (v + 7), .ref (v + 8), .int (s 13), .int (s 14), .int (s 15), .int (s 16), .ref (v + 9)])))
  refine ab_gen (fun h47 e48 => ?_)
  have c49 : h47[v]? = some (.inr (13, [.int (t 0), .int (t 1), .int (t 2), .int (s 3), .ref (v + 1), .ref (v + 2), .ref (v + 3), .ref (v + 4), .int (s 8), .ref (v + 5), .ref (v + 6), .ref (v + 7), .ref (v + 8), .int (s 13), .int (s 14), .int (s 15), .int (s 16), .ref (v + 9)])) := ab_self e48 c26
  have c50 : h47[v+1]? = some (.inl (.int, 256, .inl (a 4))) := ab_other e48 (by omega) c27
  have c51 : h47[v+2]? = some (.inl (.boolean, 256, .inl (a 5))) := ab_other e48 (by omega) c28
  have c52 : h47[v+3]? = some (.inl (.int, 256, .inl (a 6))) := ab_other e48 (by omega) c29
  have c53 : h47[v+4]? = some (.inl (.int, 12288, .inl (a 7))) := ab_other e48 (by omega) c30
  have c54 : h47[v+5]? = some (.inl (.int, 256, .inl (a 9))) := ab_other e48 (by omega) c31
  have c55 : h47[v+6]? = some (.inl (.int, 256, .inl (a 10))) := ab_other e48 (by omega) c32
  have c56 : h47[v+7]? = some (.inl (.int, 256, .inl (a 11))) := ab_other e48 (by omega) c33
  have c57 : h47[v+8]? = some (.inl (.int, 1024, .inl (a 12))) := ab_other e48 (by omega) c34
  have c58 : h47[v+9]? = some (.inl (.int, 32, .inl (a 17))) := ab_other e48 (by omega) c35
  have c59 : h47[u]? = some (.inr (13, [.int (t 0), .int (t 1), .int (t 2), .int (t 3), .ref (u + 1), .ref (u + 2), .ref (u + 3), .ref (u + 4), .int (t 8), .ref (u + 5), .ref (u + 6), .ref (u + 7), .ref (u + 8), .int (t 13), .int (t 14), .int (t 15), .int (t 16), .ref (u + 9)])) := ab_other e48 (by omega) c36
  have c60 : h47[u+1]? = some (.inl (.int, 256, .inl (d 4))) := ab_other e48 (by omega) c37
  have c61 : h47[u+2]? = some (.inl (.boolean, 256, .inl (d 5))) := ab_other e48 (by omega) c38
  have c62 : h47[u+3]? = some (.inl (.int, 256, .inl (d 6))) := ab_other e48 (by omega) c39
  have c63 : h47[u+4]? = some (.inl (.int, 12288, .inl (d 7))) := ab_other e48 (by omega) c40
  have c64 : h47[u+5]? = some (.inl (.int, 256, .inl (d 9))) := ab_other e48 (by omega) c41
  have c65 : h47[u+6]? = some (.inl (.int, 256, .inl (d 10))) := ab_other e48 (by omega) c42
  have c66 : h47[u+7]? = some (.inl (.int, 256, .inl (d 11))) := ab_other e48 (by omega) c43
  have c67 : h47[u+8]? = some (.inl (.int, 1024, .inl (d 12))) := ab_other e48 (by omega) c44
  have c68 : h47[u+9]? = some (.inl (.int, 32, .inl (d 17))) := ab_other e48 (by omega) c45
  have fr69 : ab_fr (in_MWorld v) h h47 := ab_fr_set fr46 e48 (by first | (show _ ∧ _; omega) | (show _ ∨ _; omega) | (show _ = _; omega) | (show _ ≤ _; omega))
  clear c26 c27 c28 c29 c30 c31 c32 c33 c34 c35 c36 c37 c38 c39 c40 c41 c42 c43 c44 c45 fr46 e48
  try clear h24
  refine ab_aload_n d_MWorld_copies_24 rfl rfl rfl ?_
  refine ab_aload_n d_MWorld_copies_25 rfl rfl rfl ?_
  refine ab_get (f := 3) d_MWorld_copies_26 c59 rfl (by decide) (k9 95 rfl rfl) rfl ?_
  refine ab_put (f := 3) d_MWorld_copies_29 c49 rfl (by decide) (k9 95 rfl rfl) rfl rfl (fun _ => rfl) (fun _ => rfl) (Nat.le_of_ble_eq_true rfl) ?_
  show ab_V _ _ _ _ _ _ _ 32 [some (.ref v), some (.ref u), none] [] (h47.set v (.inr (13, [.int (t 0), .int (t 1), .int (t 2), .int (t 3), .ref (v + 1), .ref (v + 2), .ref (v + 3), .ref (v + 4), .int (s 8), .ref (v + 5), .ref (v + 6), .ref (v + 7), .ref (v + 8), .int (s 13), .int (s 14), .int (s 15), .int (s 16), .ref (v + 9)])))
  refine ab_gen (fun h70 e71 => ?_)
  have c72 : h70[v]? = some (.inr (13, [.int (t 0), .int (t 1), .int (t 2), .int (t 3), .ref (v + 1), .ref (v + 2), .ref (v + 3), .ref (v + 4), .int (s 8), .ref (v + 5), .ref (v + 6), .ref (v + 7), .ref (v + 8), .int (s 13), .int (s 14), .int (s 15), .int (s 16), .ref (v + 9)])) := ab_self e71 c49
  have c73 : h70[v+1]? = some (.inl (.int, 256, .inl (a 4))) := ab_other e71 (by omega) c50
  have c74 : h70[v+2]? = some (.inl (.boolean, 256, .inl (a 5))) := ab_other e71 (by omega) c51
  have c75 : h70[v+3]? = some (.inl (.int, 256, .inl (a 6))) := ab_other e71 (by omega) c52
  have c76 : h70[v+4]? = some (.inl (.int, 12288, .inl (a 7))) := ab_other e71 (by omega) c53
  have c77 : h70[v+5]? = some (.inl (.int, 256, .inl (a 9))) := ab_other e71 (by omega) c54
  have c78 : h70[v+6]? = some (.inl (.int, 256, .inl (a 10))) := ab_other e71 (by omega) c55
  have c79 : h70[v+7]? = some (.inl (.int, 256, .inl (a 11))) := ab_other e71 (by omega) c56
  have c80 : h70[v+8]? = some (.inl (.int, 1024, .inl (a 12))) := ab_other e71 (by omega) c57
  have c81 : h70[v+9]? = some (.inl (.int, 32, .inl (a 17))) := ab_other e71 (by omega) c58
  have c82 : h70[u]? = some (.inr (13, [.int (t 0), .int (t 1), .int (t 2), .int (t 3), .ref (u + 1), .ref (u + 2), .ref (u + 3), .ref (u + 4), .int (t 8), .ref (u + 5), .ref (u + 6), .ref (u + 7), .ref (u + 8), .int (t 13), .int (t 14), .int (t 15), .int (t 16), .ref (u + 9)])) := ab_other e71 (by omega) c59
  have c83 : h70[u+1]? = some (.inl (.int, 256, .inl (d 4))) := ab_other e71 (by omega) c60
  have c84 : h70[u+2]? = some (.inl (.boolean, 256, .inl (d 5))) := ab_other e71 (by omega) c61
  have c85 : h70[u+3]? = some (.inl (.int, 256, .inl (d 6))) := ab_other e71 (by omega) c62
  have c86 : h70[u+4]? = some (.inl (.int, 12288, .inl (d 7))) := ab_other e71 (by omega) c63
  have c87 : h70[u+5]? = some (.inl (.int, 256, .inl (d 9))) := ab_other e71 (by omega) c64
  have c88 : h70[u+6]? = some (.inl (.int, 256, .inl (d 10))) := ab_other e71 (by omega) c65
  have c89 : h70[u+7]? = some (.inl (.int, 256, .inl (d 11))) := ab_other e71 (by omega) c66
  have c90 : h70[u+8]? = some (.inl (.int, 1024, .inl (d 12))) := ab_other e71 (by omega) c67
  have c91 : h70[u+9]? = some (.inl (.int, 32, .inl (d 17))) := ab_other e71 (by omega) c68
  have fr92 : ab_fr (in_MWorld v) h h70 := ab_fr_set fr69 e71 (by first | (show _ ∧ _; omega) | (show _ ∨ _; omega) | (show _ = _; omega) | (show _ ≤ _; omega))
  clear c49 c50 c51 c52 c53 c54 c55 c56 c57 c58 c59 c60 c61 c62 c63 c64 c65 c66 c67 c68 fr69 e71
  try clear h47
  refine ab_aload_n d_MWorld_copies_32 rfl rfl rfl ?_
  refine ab_aload_n d_MWorld_copies_33 rfl rfl rfl ?_
  refine ab_get (f := 8) d_MWorld_copies_34 c82 rfl (by decide) (k9 111 rfl rfl) rfl ?_
  refine ab_put (f := 8) d_MWorld_copies_37 c72 rfl (by decide) (k9 111 rfl rfl) rfl rfl (fun _ => rfl) (fun _ => rfl) (Nat.le_of_ble_eq_true rfl) ?_
  show ab_V _ _ _ _ _ _ _ 40 [some (.ref v), some (.ref u), none] [] (h70.set v (.inr (13, [.int (t 0), .int (t 1), .int (t 2), .int (t 3), .ref (v + 1), .ref (v + 2), .ref (v + 3), .ref (v + 4), .int (t 8), .ref (v + 5), .ref (v + 6), .ref (v + 7), .ref (v + 8), .int (s 13), .int (s 14), .int (s 15), .int (s 16), .ref (v + 9)])))
  refine ab_gen (fun h93 e94 => ?_)
  have c95 : h93[v]? = some (.inr (13, [.int (t 0), .int (t 1), .int (t 2), .int (t 3), .ref (v + 1), .ref (v + 2), .ref (v + 3), .ref (v + 4), .int (t 8), .ref (v + 5), .ref (v + 6), .ref (v + 7), .ref (v + 8), .int (s 13), .int (s 14), .int (s 15), .int (s 16), .ref (v + 9)])) := ab_self e94 c72
  have c96 : h93[v+1]? = some (.inl (.int, 256, .inl (a 4))) := ab_other e94 (by omega) c73
  have c97 : h93[v+2]? = some (.inl (.boolean, 256, .inl (a 5))) := ab_other e94 (by omega) c74
  have c98 : h93[v+3]? = some (.inl (.int, 256, .inl (a 6))) := ab_other e94 (by omega) c75
  have c99 : h93[v+4]? = some (.inl (.int, 12288, .inl (a 7))) := ab_other e94 (by omega) c76
  have c100 : h93[v+5]? = some (.inl (.int, 256, .inl (a 9))) := ab_other e94 (by omega) c77
  have c101 : h93[v+6]? = some (.inl (.int, 256, .inl (a 10))) := ab_other e94 (by omega) c78
  have c102 : h93[v+7]? = some (.inl (.int, 256, .inl (a 11))) := ab_other e94 (by omega) c79
  have c103 : h93[v+8]? = some (.inl (.int, 1024, .inl (a 12))) := ab_other e94 (by omega) c80
  have c104 : h93[v+9]? = some (.inl (.int, 32, .inl (a 17))) := ab_other e94 (by omega) c81
  have c105 : h93[u]? = some (.inr (13, [.int (t 0), .int (t 1), .int (t 2), .int (t 3), .ref (u + 1), .ref (u + 2), .ref (u + 3), .ref (u + 4), .int (t 8), .ref (u + 5), .ref (u + 6), .ref (u + 7), .ref (u + 8), .int (t 13), .int (t 14), .int (t 15), .int (t 16), .ref (u + 9)])) := ab_other e94 (by omega) c82
  have c106 : h93[u+1]? = some (.inl (.int, 256, .inl (d 4))) := ab_other e94 (by omega) c83
  have c107 : h93[u+2]? = some (.inl (.boolean, 256, .inl (d 5))) := ab_other e94 (by omega) c84
  have c108 : h93[u+3]? = some (.inl (.int, 256, .inl (d 6))) := ab_other e94 (by omega) c85
  have c109 : h93[u+4]? = some (.inl (.int, 12288, .inl (d 7))) := ab_other e94 (by omega) c86
  have c110 : h93[u+5]? = some (.inl (.int, 256, .inl (d 9))) := ab_other e94 (by omega) c87
  have c111 : h93[u+6]? = some (.inl (.int, 256, .inl (d 10))) := ab_other e94 (by omega) c88
  have c112 : h93[u+7]? = some (.inl (.int, 256, .inl (d 11))) := ab_other e94 (by omega) c89
  have c113 : h93[u+8]? = some (.inl (.int, 1024, .inl (d 12))) := ab_other e94 (by omega) c90
  have c114 : h93[u+9]? = some (.inl (.int, 32, .inl (d 17))) := ab_other e94 (by omega) c91
  have fr115 : ab_fr (in_MWorld v) h h93 := ab_fr_set fr92 e94 (by first | (show _ ∧ _; omega) | (show _ ∨ _; omega) | (show _ = _; omega) | (show _ ≤ _; omega))
  clear c72 c73 c74 c75 c76 c77 c78 c79 c80 c81 c82 c83 c84 c85 c86 c87 c88 c89 c90 c91 fr92 e94
  try clear h70
  refine ab_aload_n d_MWorld_copies_40 rfl rfl rfl ?_
  refine ab_aload_n d_MWorld_copies_41 rfl rfl rfl ?_
  refine ab_get (f := 13) d_MWorld_copies_42 c105 rfl (by decide) (k9 126 rfl rfl) rfl ?_
  refine ab_put (f := 13) d_MWorld_copies_45 c95 rfl (by decide) (k9 126 rfl rfl) rfl rfl (fun _ => rfl) (fun _ => rfl) (Nat.le_of_ble_eq_true rfl) ?_
  show ab_V _ _ _ _ _ _ _ 48 [some (.ref v), some (.ref u), none] [] (h93.set v (.inr (13, [.int (t 0), .int (t 1), .int (t 2), .int (t 3), .ref (v + 1), .ref (v + 2), .ref (v + 3), .ref (v + 4), .int (t 8), .ref (v + 5), .ref (v + 6), .ref (v + 7), .ref (v + 8), .int (t 13), .int (s 14), .int (s 15), .int (s 16), .ref (v + 9)])))
  refine ab_gen (fun h116 e117 => ?_)
  have c118 : h116[v]? = some (.inr (13, [.int (t 0), .int (t 1), .int (t 2), .int (t 3), .ref (v + 1), .ref (v + 2), .ref (v + 3), .ref (v + 4), .int (t 8), .ref (v + 5), .ref (v + 6), .ref (v + 7), .ref (v + 8), .int (t 13), .int (s 14), .int (s 15), .int (s 16), .ref (v + 9)])) := ab_self e117 c95
  have c119 : h116[v+1]? = some (.inl (.int, 256, .inl (a 4))) := ab_other e117 (by omega) c96
  have c120 : h116[v+2]? = some (.inl (.boolean, 256, .inl (a 5))) := ab_other e117 (by omega) c97
  have c121 : h116[v+3]? = some (.inl (.int, 256, .inl (a 6))) := ab_other e117 (by omega) c98
  have c122 : h116[v+4]? = some (.inl (.int, 12288, .inl (a 7))) := ab_other e117 (by omega) c99
  have c123 : h116[v+5]? = some (.inl (.int, 256, .inl (a 9))) := ab_other e117 (by omega) c100
  have c124 : h116[v+6]? = some (.inl (.int, 256, .inl (a 10))) := ab_other e117 (by omega) c101
  have c125 : h116[v+7]? = some (.inl (.int, 256, .inl (a 11))) := ab_other e117 (by omega) c102
  have c126 : h116[v+8]? = some (.inl (.int, 1024, .inl (a 12))) := ab_other e117 (by omega) c103
  have c127 : h116[v+9]? = some (.inl (.int, 32, .inl (a 17))) := ab_other e117 (by omega) c104
  have c128 : h116[u]? = some (.inr (13, [.int (t 0), .int (t 1), .int (t 2), .int (t 3), .ref (u + 1), .ref (u + 2), .ref (u + 3), .ref (u + 4), .int (t 8), .ref (u + 5), .ref (u + 6), .ref (u + 7), .ref (u + 8), .int (t 13), .int (t 14), .int (t 15), .int (t 16), .ref (u + 9)])) := ab_other e117 (by omega) c105
  have c129 : h116[u+1]? = some (.inl (.int, 256, .inl (d 4))) := ab_other e117 (by omega) c106
  have c130 : h116[u+2]? = some (.inl (.boolean, 256, .inl (d 5))) := ab_other e117 (by omega) c107
  have c131 : h116[u+3]? = some (.inl (.int, 256, .inl (d 6))) := ab_other e117 (by omega) c108
  have c132 : h116[u+4]? = some (.inl (.int, 12288, .inl (d 7))) := ab_other e117 (by omega) c109
  have c133 : h116[u+5]? = some (.inl (.int, 256, .inl (d 9))) := ab_other e117 (by omega) c110
  have c134 : h116[u+6]? = some (.inl (.int, 256, .inl (d 10))) := ab_other e117 (by omega) c111
  have c135 : h116[u+7]? = some (.inl (.int, 256, .inl (d 11))) := ab_other e117 (by omega) c112
  have c136 : h116[u+8]? = some (.inl (.int, 1024, .inl (d 12))) := ab_other e117 (by omega) c113
  have c137 : h116[u+9]? = some (.inl (.int, 32, .inl (d 17))) := ab_other e117 (by omega) c114
  have fr138 : ab_fr (in_MWorld v) h h116 := ab_fr_set fr115 e117 (by first | (show _ ∧ _; omega) | (show _ ∨ _; omega) | (show _ = _; omega) | (show _ ≤ _; omega))
  clear c95 c96 c97 c98 c99 c100 c101 c102 c103 c104 c105 c106 c107 c108 c109 c110 c111 c112 c113 c114 fr115 e117
  try clear h93
  refine ab_aload_n d_MWorld_copies_48 rfl rfl rfl ?_
  refine ab_aload_n d_MWorld_copies_49 rfl rfl rfl ?_
  refine ab_get (f := 14) d_MWorld_copies_50 c128 rfl (by decide) (k9 129 rfl rfl) rfl ?_
  refine ab_put (f := 14) d_MWorld_copies_53 c118 rfl (by decide) (k9 129 rfl rfl) rfl rfl (fun _ => rfl) (fun _ => rfl) (Nat.le_of_ble_eq_true rfl) ?_
  show ab_V _ _ _ _ _ _ _ 56 [some (.ref v), some (.ref u), none] [] (h116.set v (.inr (13, [.int (t 0), .int (t 1), .int (t 2), .int (t 3), .ref (v + 1), .ref (v + 2), .ref (v + 3), .ref (v + 4), .int (t 8), .ref (v + 5), .ref (v + 6), .ref (v + 7), .ref (v + 8), .int (t 13), .int (t 14), .int (s 15), .int (s 16), .ref (v + 9)])))
  refine ab_gen (fun h139 e140 => ?_)
  have c141 : h139[v]? = some (.inr (13, [.int (t 0), .int (t 1), .int (t 2), .int (t 3), .ref (v + 1), .ref (v + 2), .ref (v + 3), .ref (v + 4), .int (t 8), .ref (v + 5), .ref (v + 6), .ref (v + 7), .ref (v + 8), .int (t 13), .int (t 14), .int (s 15), .int (s 16), .ref (v + 9)])) := ab_self e140 c118
  have c142 : h139[v+1]? = some (.inl (.int, 256, .inl (a 4))) := ab_other e140 (by omega) c119
  have c143 : h139[v+2]? = some (.inl (.boolean, 256, .inl (a 5))) := ab_other e140 (by omega) c120
  have c144 : h139[v+3]? = some (.inl (.int, 256, .inl (a 6))) := ab_other e140 (by omega) c121
  have c145 : h139[v+4]? = some (.inl (.int, 12288, .inl (a 7))) := ab_other e140 (by omega) c122
  have c146 : h139[v+5]? = some (.inl (.int, 256, .inl (a 9))) := ab_other e140 (by omega) c123
  have c147 : h139[v+6]? = some (.inl (.int, 256, .inl (a 10))) := ab_other e140 (by omega) c124
  have c148 : h139[v+7]? = some (.inl (.int, 256, .inl (a 11))) := ab_other e140 (by omega) c125
  have c149 : h139[v+8]? = some (.inl (.int, 1024, .inl (a 12))) := ab_other e140 (by omega) c126
  have c150 : h139[v+9]? = some (.inl (.int, 32, .inl (a 17))) := ab_other e140 (by omega) c127
  have c151 : h139[u]? = some (.inr (13, [.int (t 0), .int (t 1), .int (t 2), .int (t 3), .ref (u + 1), .ref (u + 2), .ref (u + 3), .ref (u + 4), .int (t 8), .ref (u + 5), .ref (u + 6), .ref (u + 7), .ref (u + 8), .int (t 13), .int (t 14), .int (t 15), .int (t 16), .ref (u + 9)])) := ab_other e140 (by omega) c128
  have c152 : h139[u+1]? = some (.inl (.int, 256, .inl (d 4))) := ab_other e140 (by omega) c129
  have c153 : h139[u+2]? = some (.inl (.boolean, 256, .inl (d 5))) := ab_other e140 (by omega) c130
  have c154 : h139[u+3]? = some (.inl (.int, 256, .inl (d 6))) := ab_other e140 (by omega) c131
  have c155 : h139[u+4]? = some (.inl (.int, 12288, .inl (d 7))) := ab_other e140 (by omega) c132
  have c156 : h139[u+5]? = some (.inl (.int, 256, .inl (d 9))) := ab_other e140 (by omega) c133
  have c157 : h139[u+6]? = some (.inl (.int, 256, .inl (d 10))) := ab_other e140 (by omega) c134
  have c158 : h139[u+7]? = some (.inl (.int, 256, .inl (d 11))) := ab_other e140 (by omega) c135
  have c159 : h139[u+8]? = some (.inl (.int, 1024, .inl (d 12))) := ab_other e140 (by omega) c136
  have c160 : h139[u+9]? = some (.inl (.int, 32, .inl (d 17))) := ab_other e140 (by omega) c137
  have fr161 : ab_fr (in_MWorld v) h h139 := ab_fr_set fr138 e140 (by first | (show _ ∧ _; omega) | (show _ ∨ _; omega) | (show _ = _; omega) | (show _ ≤ _; omega))
  clear c118 c119 c120 c121 c122 c123 c124 c125 c126 c127 c128 c129 c130 c131 c132 c133 c134 c135 c136 c137 fr138 e140
  try clear h116
  refine ab_aload_n d_MWorld_copies_56 rfl rfl rfl ?_
  refine ab_aload_n d_MWorld_copies_57 rfl rfl rfl ?_
  refine ab_get (f := 15) d_MWorld_copies_58 c151 rfl (by decide) (k9 131 rfl rfl) rfl ?_
  refine ab_put (f := 15) d_MWorld_copies_61 c141 rfl (by decide) (k9 131 rfl rfl) rfl rfl (fun _ => rfl) (fun _ => rfl) (Nat.le_of_ble_eq_true rfl) ?_
  show ab_V _ _ _ _ _ _ _ 64 [some (.ref v), some (.ref u), none] [] (h139.set v (.inr (13, [.int (t 0), .int (t 1), .int (t 2), .int (t 3), .ref (v + 1), .ref (v + 2), .ref (v + 3), .ref (v + 4), .int (t 8), .ref (v + 5), .ref (v + 6), .ref (v + 7), .ref (v + 8), .int (t 13), .int (t 14), .int (t 15), .int (s 16), .ref (v + 9)])))
  refine ab_gen (fun h162 e163 => ?_)
  have c164 : h162[v]? = some (.inr (13, [.int (t 0), .int (t 1), .int (t 2), .int (t 3), .ref (v + 1), .ref (v + 2), .ref (v + 3), .ref (v + 4), .int (t 8), .ref (v + 5), .ref (v + 6), .ref (v + 7), .ref (v + 8), .int (t 13), .int (t 14), .int (t 15), .int (s 16), .ref (v + 9)])) := ab_self e163 c141
  have c165 : h162[v+1]? = some (.inl (.int, 256, .inl (a 4))) := ab_other e163 (by omega) c142
  have c166 : h162[v+2]? = some (.inl (.boolean, 256, .inl (a 5))) := ab_other e163 (by omega) c143
  have c167 : h162[v+3]? = some (.inl (.int, 256, .inl (a 6))) := ab_other e163 (by omega) c144
  have c168 : h162[v+4]? = some (.inl (.int, 12288, .inl (a 7))) := ab_other e163 (by omega) c145
  have c169 : h162[v+5]? = some (.inl (.int, 256, .inl (a 9))) := ab_other e163 (by omega) c146
  have c170 : h162[v+6]? = some (.inl (.int, 256, .inl (a 10))) := ab_other e163 (by omega) c147
  have c171 : h162[v+7]? = some (.inl (.int, 256, .inl (a 11))) := ab_other e163 (by omega) c148
  have c172 : h162[v+8]? = some (.inl (.int, 1024, .inl (a 12))) := ab_other e163 (by omega) c149
  have c173 : h162[v+9]? = some (.inl (.int, 32, .inl (a 17))) := ab_other e163 (by omega) c150
  have c174 : h162[u]? = some (.inr (13, [.int (t 0), .int (t 1), .int (t 2), .int (t 3), .ref (u + 1), .ref (u + 2), .ref (u + 3), .ref (u + 4), .int (t 8), .ref (u + 5), .ref (u + 6), .ref (u + 7), .ref (u + 8), .int (t 13), .int (t 14), .int (t 15), .int (t 16), .ref (u + 9)])) := ab_other e163 (by omega) c151
  have c175 : h162[u+1]? = some (.inl (.int, 256, .inl (d 4))) := ab_other e163 (by omega) c152
  have c176 : h162[u+2]? = some (.inl (.boolean, 256, .inl (d 5))) := ab_other e163 (by omega) c153
  have c177 : h162[u+3]? = some (.inl (.int, 256, .inl (d 6))) := ab_other e163 (by omega) c154
  have c178 : h162[u+4]? = some (.inl (.int, 12288, .inl (d 7))) := ab_other e163 (by omega) c155
  have c179 : h162[u+5]? = some (.inl (.int, 256, .inl (d 9))) := ab_other e163 (by omega) c156
  have c180 : h162[u+6]? = some (.inl (.int, 256, .inl (d 10))) := ab_other e163 (by omega) c157
  have c181 : h162[u+7]? = some (.inl (.int, 256, .inl (d 11))) := ab_other e163 (by omega) c158
  have c182 : h162[u+8]? = some (.inl (.int, 1024, .inl (d 12))) := ab_other e163 (by omega) c159
  have c183 : h162[u+9]? = some (.inl (.int, 32, .inl (d 17))) := ab_other e163 (by omega) c160
  have fr184 : ab_fr (in_MWorld v) h h162 := ab_fr_set fr161 e163 (by first | (show _ ∧ _; omega) | (show _ ∨ _; omega) | (show _ = _; omega) | (show _ ≤ _; omega))
  clear c141 c142 c143 c144 c145 c146 c147 c148 c149 c150 c151 c152 c153 c154 c155 c156 c157 c158 c159 c160 fr161 e163
  try clear h139
  refine ab_aload_n d_MWorld_copies_64 rfl rfl rfl ?_
  refine ab_aload_n d_MWorld_copies_65 rfl rfl rfl ?_
  refine ab_get (f := 16) d_MWorld_copies_66 c174 rfl (by decide) (k9 133 rfl rfl) rfl ?_
  refine ab_put (f := 16) d_MWorld_copies_69 c164 rfl (by decide) (k9 133 rfl rfl) rfl rfl (fun _ => rfl) (fun _ => rfl) (Nat.le_of_ble_eq_true rfl) ?_
  show ab_V _ _ _ _ _ _ _ 72 [some (.ref v), some (.ref u), none] [] (h162.set v (.inr (13, [.int (t 0), .int (t 1), .int (t 2), .int (t 3), .ref (v + 1), .ref (v + 2), .ref (v + 3), .ref (v + 4), .int (t 8), .ref (v + 5), .ref (v + 6), .ref (v + 7), .ref (v + 8), .int (t 13), .int (t 14), .int (t 15), .int (t 16), .ref (v + 9)])))
  refine ab_gen (fun h185 e186 => ?_)
  have c187 : h185[v]? = some (.inr (13, [.int (t 0), .int (t 1), .int (t 2), .int (t 3), .ref (v + 1), .ref (v + 2), .ref (v + 3), .ref (v + 4), .int (t 8), .ref (v + 5), .ref (v + 6), .ref (v + 7), .ref (v + 8), .int (t 13), .int (t 14), .int (t 15), .int (t 16), .ref (v + 9)])) := ab_self e186 c164
  have c188 : h185[v+1]? = some (.inl (.int, 256, .inl (a 4))) := ab_other e186 (by omega) c165
  have c189 : h185[v+2]? = some (.inl (.boolean, 256, .inl (a 5))) := ab_other e186 (by omega) c166
  have c190 : h185[v+3]? = some (.inl (.int, 256, .inl (a 6))) := ab_other e186 (by omega) c167
  have c191 : h185[v+4]? = some (.inl (.int, 12288, .inl (a 7))) := ab_other e186 (by omega) c168
  have c192 : h185[v+5]? = some (.inl (.int, 256, .inl (a 9))) := ab_other e186 (by omega) c169
  have c193 : h185[v+6]? = some (.inl (.int, 256, .inl (a 10))) := ab_other e186 (by omega) c170
  have c194 : h185[v+7]? = some (.inl (.int, 256, .inl (a 11))) := ab_other e186 (by omega) c171
  have c195 : h185[v+8]? = some (.inl (.int, 1024, .inl (a 12))) := ab_other e186 (by omega) c172
  have c196 : h185[v+9]? = some (.inl (.int, 32, .inl (a 17))) := ab_other e186 (by omega) c173
  have c197 : h185[u]? = some (.inr (13, [.int (t 0), .int (t 1), .int (t 2), .int (t 3), .ref (u + 1), .ref (u + 2), .ref (u + 3), .ref (u + 4), .int (t 8), .ref (u + 5), .ref (u + 6), .ref (u + 7), .ref (u + 8), .int (t 13), .int (t 14), .int (t 15), .int (t 16), .ref (u + 9)])) := ab_other e186 (by omega) c174
  have c198 : h185[u+1]? = some (.inl (.int, 256, .inl (d 4))) := ab_other e186 (by omega) c175
  have c199 : h185[u+2]? = some (.inl (.boolean, 256, .inl (d 5))) := ab_other e186 (by omega) c176
  have c200 : h185[u+3]? = some (.inl (.int, 256, .inl (d 6))) := ab_other e186 (by omega) c177
  have c201 : h185[u+4]? = some (.inl (.int, 12288, .inl (d 7))) := ab_other e186 (by omega) c178
  have c202 : h185[u+5]? = some (.inl (.int, 256, .inl (d 9))) := ab_other e186 (by omega) c179
  have c203 : h185[u+6]? = some (.inl (.int, 256, .inl (d 10))) := ab_other e186 (by omega) c180
  have c204 : h185[u+7]? = some (.inl (.int, 256, .inl (d 11))) := ab_other e186 (by omega) c181
  have c205 : h185[u+8]? = some (.inl (.int, 1024, .inl (d 12))) := ab_other e186 (by omega) c182
  have c206 : h185[u+9]? = some (.inl (.int, 32, .inl (d 17))) := ab_other e186 (by omega) c183
  have fr207 : ab_fr (in_MWorld v) h h185 := ab_fr_set fr184 e186 (by first | (show _ ∧ _; omega) | (show _ ∨ _; omega) | (show _ = _; omega) | (show _ ≤ _; omega))
  clear c164 c165 c166 c167 c168 c169 c170 c171 c172 c173 c174 c175 c176 c177 c178 c179 c180 c181 c182 c183 fr184 e186
  try clear h162
  refine ab_iconst (v := 0) d_MWorld_copies_72 (by decide) ?_
  refine ab_istore_n (lv' := [some (.ref v), some (.ref u), some (.int 0)]) d_MWorld_copies_73 rfl (by decide) rfl ?_
  refine l_cp32 hvu (Nat.le_of_ble_eq_true rfl) (Nat.le_of_ble_eq_true rfl) 32 0 h185 (a 17) (by omega) c187 c197 c196 c206 (fun h208 y209 c210 c211 c212 c213 f214 => ?_)
  have c215 : h208[v+1]? = some (.inl (.int, 256, .inl (a 4))) := ab_fr_at f214 c188 (by omega)
  have c216 : h208[v+2]? = some (.inl (.boolean, 256, .inl (a 5))) := ab_fr_at f214 c189 (by omega)
  have c217 : h208[v+3]? = some (.inl (.int, 256, .inl (a 6))) := ab_fr_at f214 c190 (by omega)
  have c218 : h208[v+4]? = some (.inl (.int, 12288, .inl (a 7))) := ab_fr_at f214 c191 (by omega)
  have c219 : h208[v+5]? = some (.inl (.int, 256, .inl (a 9))) := ab_fr_at f214 c192 (by omega)
  have c220 : h208[v+6]? = some (.inl (.int, 256, .inl (a 10))) := ab_fr_at f214 c193 (by omega)
  have c221 : h208[v+7]? = some (.inl (.int, 256, .inl (a 11))) := ab_fr_at f214 c194 (by omega)
  have c222 : h208[v+8]? = some (.inl (.int, 1024, .inl (a 12))) := ab_fr_at f214 c195 (by omega)
  have c223 : h208[u+1]? = some (.inl (.int, 256, .inl (d 4))) := ab_fr_at f214 c198 (by omega)
  have c224 : h208[u+2]? = some (.inl (.boolean, 256, .inl (d 5))) := ab_fr_at f214 c199 (by omega)
  have c225 : h208[u+3]? = some (.inl (.int, 256, .inl (d 6))) := ab_fr_at f214 c200 (by omega)
  have c226 : h208[u+4]? = some (.inl (.int, 12288, .inl (d 7))) := ab_fr_at f214 c201 (by omega)
  have c227 : h208[u+5]? = some (.inl (.int, 256, .inl (d 9))) := ab_fr_at f214 c202 (by omega)
  have c228 : h208[u+6]? = some (.inl (.int, 256, .inl (d 10))) := ab_fr_at f214 c203 (by omega)
  have c229 : h208[u+7]? = some (.inl (.int, 256, .inl (d 11))) := ab_fr_at f214 c204 (by omega)
  have c230 : h208[u+8]? = some (.inl (.int, 1024, .inl (d 12))) := ab_fr_at f214 c205 (by omega)
  have fr231 : ab_fr (in_MWorld v) h h208 := ab_fr_tr fr207 (ab_fr_mono f214 (by intro i hi; simp only [in_MWorld] at * <;> omega))
  clear c187 c188 c189 c190 c191 c192 c193 c194 c195 c196 c197 c198 c199 c200 c201 c202 c203 c204 c205 c206 f214 fr207
  try clear h185
  refine ab_iconst (v := 0) d_MWorld_copies_98 (by decide) ?_
  refine ab_istore_n (lv' := [some (.ref v), some (.ref u), some (.int 0)]) d_MWorld_copies_99 rfl (by decide) rfl ?_
  refine l_cp256 hvu (Nat.le_of_ble_eq_true rfl) (Nat.le_of_ble_eq_true rfl) 256 0 h208 (a 4) (a 5) (a 6) (by omega) c210 c211 c215 c216 c217 c223 c224 c225 (fun h232 y233 y234 y235 c236 c237 c238 c239 c240 c241 c242 c243 f244 => ?_)
  have c245 : h232[v+4]? = some (.inl (.int, 12288, .inl (a 7))) := ab_fr_at f244 c218 (by omega)
  have c246 : h232[v+5]? = some (.inl (.int, 256, .inl (a 9))) := ab_fr_at f244 c219 (by omega)
  have c247 : h232[v+6]? = some (.inl (.int, 256, .inl (a 10))) := ab_fr_at f244 c220 (by omega)
  have c248 : h232[v+7]? = some (.inl (.int, 256, .inl (a 11))) := ab_fr_at f244 c221 (by omega)
  have c249 : h232[v+8]? = some (.inl (.int, 1024, .inl (a 12))) := ab_fr_at f244 c222 (by omega)
  have c250 : h232[u+4]? = some (.inl (.int, 12288, .inl (d 7))) := ab_fr_at f244 c226 (by omega)
  have c251 : h232[u+5]? = some (.inl (.int, 256, .inl (d 9))) := ab_fr_at f244 c227 (by omega)
  have c252 : h232[u+6]? = some (.inl (.int, 256, .inl (d 10))) := ab_fr_at f244 c228 (by omega)
  have c253 : h232[u+7]? = some (.inl (.int, 256, .inl (d 11))) := ab_fr_at f244 c229 (by omega)
  have c254 : h232[u+8]? = some (.inl (.int, 1024, .inl (d 12))) := ab_fr_at f244 c230 (by omega)
  have c255 : h232[v+9]? = some (.inl (.int, 32, .inl y209)) := ab_fr_at f244 c212 (by omega)
  have c256 : h232[u+9]? = some (.inl (.int, 32, .inl (d 17))) := ab_fr_at f244 c213 (by omega)
  have fr257 : ab_fr (in_MWorld v) h h232 := ab_fr_tr fr231 (ab_fr_mono f244 (by intro i hi; simp only [in_MWorld] at * <;> omega))
  clear c215 c216 c217 c218 c219 c220 c221 c222 c223 c224 c225 c226 c227 c228 c229 c230 c210 c211 c212 c213 f244 fr231
  try clear h208
  refine ab_iconst (v := 0) d_MWorld_copies_149 (by decide) ?_
  refine ab_istore_n (lv' := [some (.ref v), some (.ref u), some (.int 0)]) d_MWorld_copies_150 rfl (by decide) rfl ?_
  refine l_cp12288 hvu (Nat.le_of_ble_eq_true rfl) (Nat.le_of_ble_eq_true rfl) 12288 0 h232 (a 7) (by omega) c236 c237 c245 c250 (fun h258 y259 c260 c261 c262 c263 f264 => ?_)
  have c265 : h258[v+5]? = some (.inl (.int, 256, .inl (a 9))) := ab_fr_at f264 c246 (by omega)
  have c266 : h258[v+6]? = some (.inl (.int, 256, .inl (a 10))) := ab_fr_at f264 c247 (by omega)
  have c267 : h258[v+7]? = some (.inl (.int, 256, .inl (a 11))) := ab_fr_at f264 c248 (by omega)
  have c268 : h258[v+8]? = some (.inl (.int, 1024, .inl (a 12))) := ab_fr_at f264 c249 (by omega)
  have c269 : h258[u+5]? = some (.inl (.int, 256, .inl (d 9))) := ab_fr_at f264 c251 (by omega)
  have c270 : h258[u+6]? = some (.inl (.int, 256, .inl (d 10))) := ab_fr_at f264 c252 (by omega)
  have c271 : h258[u+7]? = some (.inl (.int, 256, .inl (d 11))) := ab_fr_at f264 c253 (by omega)
  have c272 : h258[u+8]? = some (.inl (.int, 1024, .inl (d 12))) := ab_fr_at f264 c254 (by omega)
  have c273 : h258[v+9]? = some (.inl (.int, 32, .inl y209)) := ab_fr_at f264 c255 (by omega)
  have c274 : h258[u+9]? = some (.inl (.int, 32, .inl (d 17))) := ab_fr_at f264 c256 (by omega)
  have c275 : h258[v+1]? = some (.inl (.int, 256, .inl y233)) := ab_fr_at f264 c238 (by omega)
  have c276 : h258[v+2]? = some (.inl (.boolean, 256, .inl y234)) := ab_fr_at f264 c239 (by omega)
  have c277 : h258[v+3]? = some (.inl (.int, 256, .inl y235)) := ab_fr_at f264 c240 (by omega)
  have c278 : h258[u+1]? = some (.inl (.int, 256, .inl (d 4))) := ab_fr_at f264 c241 (by omega)
  have c279 : h258[u+2]? = some (.inl (.boolean, 256, .inl (d 5))) := ab_fr_at f264 c242 (by omega)
  have c280 : h258[u+3]? = some (.inl (.int, 256, .inl (d 6))) := ab_fr_at f264 c243 (by omega)
  have fr281 : ab_fr (in_MWorld v) h h258 := ab_fr_tr fr257 (ab_fr_mono f264 (by intro i hi; simp only [in_MWorld] at * <;> omega))
  clear c245 c246 c247 c248 c249 c250 c251 c252 c253 c254 c255 c256 c236 c237 c238 c239 c240 c241 c242 c243 f264 fr257
  try clear h232
  refine ab_iconst (v := 0) d_MWorld_copies_176 (by decide) ?_
  refine ab_istore_n (lv' := [some (.ref v), some (.ref u), some (.int 0)]) d_MWorld_copies_177 rfl (by decide) rfl ?_
  refine ab_iload_n d_MWorld_copies_178 rfl rfl ?_
  refine ab_aload_n d_MWorld_copies_179 rfl rfl rfl ?_
  refine ab_get (f := 8) d_MWorld_copies_180 c260 rfl (by decide) (k9 111 rfl rfl) rfl ?_
  refine ab_icmp_ge (tgt := 199) d_MWorld_copies_183 (by decide) (fun q282 => ?_) (fun q282 => ?_)
  · exact ab_vret d_MWorld_copies_199 rfl (Nat.le_refl _) (Nat.le_refl _) (by exact ⟨rfl, (fun k => if k = 4 then y233 else if k = 5 then y234 else if k = 6 then y235 else if k = 7 then y259 else if k = 9 then (a 9) else if k = 10 then (a 10) else if k = 11 then (a 11) else if k = 12 then (a 12) else if k = 17 then y209 else fun _ => 0), ⟨c260, c275, c276, c277, c262, c265, c266, c267, c268, c273⟩, fr281⟩)
  · exact absurd (by rw [hp]; decide) q282
set_option maxRecDepth 20000 in
set_option maxHeartbeats 2000000 in
theorem l_fg256 {Po : Outcome → List ab_E → Prop} {mc ms cells slots : Nat} {p0 p1 p2 p3 p4 p5 p6 p7 p8 p9 p10 p11 p12 p13 p14 p16 p18 p19 p20 p21 p22 p23 p24 p25 p26 p27 p28 : Value} {m ic la : Nat} (h1m : ic ≠ m) (h2m : la ≠ m) (hcl : cells ≤ ({ frames := 0, cells := 0, slots := 0, locals := 0 } : Room).cells) (hsl : slots ≤ ({ frames := 0, cells := 0, slots := 0, locals := 0 } : Room).slots) : ∀ (n i : Nat) (h : List ab_E) (xf : Nat → Int32), i + n = 256 → h[m]? = some (.inr (12, [p0, p1, p2, p3, p4, p5, p6, p7, p8, p9, p10, p11, p12, p13, p14, .ref ic, p16, .ref la, p18, p19, p20, p21, p22, p23, p24, p25, p26, p27, p28])) → h[ic]? = some (.inl (.boolean, 256, .inl xf)) → (∀ (h1 : List ab_E) (xf1 : Nat → Int32), h1[m]? = some (.inr (12, [p0, p1, p2, p3, p4, p5, p6, p7, p8, p9, p10, p11, p12, p13, p14, .ref ic, p16, .ref la, p18, p19, p20, p21, p22, p23, p24, p25, p26, p27, p28])) → h1[ic]? = some (.inl (.boolean, 256, .inl xf1)) → ab_fr (fun j => j = ic) h h1 → ab_V y_M_forgets { frames := 0, cells := 0, slots := 0, locals := 0 } Po mc ms cells slots 22 [some (.ref m), some (.int (nI 256))] [] h1) →
    ab_V y_M_forgets { frames := 0, cells := 0, slots := 0, locals := 0 } Po mc ms cells slots 2 [some (.ref m), some (.int (nI i))] [] h := by
  intro n
  induction n with
  | zero =>
    intro i h xf hi po xa hk
    refine ab_iload_n d_M_forgets_2 rfl rfl ?_
    refine ab_sipush (v := 256) d_M_forgets_3 (by decide) ?_
    refine ab_icmp_ge (tgt := 22) d_M_forgets_6 (by decide) (fun q1 => ?_) (fun q1 => ?_)
    · have hiN : i = 256 := (by omega)
      subst hiN
      exact hk h xf po xa (ab_fr_rf _ _)
    · exact absurd (nI_le (a := 256) (b := i) (by omega) (by omega)) q1
  | succ n ih =>
    intro i h xf hi po xa hk
    refine ab_iload_n d_M_forgets_2 rfl rfl ?_
    refine ab_sipush (v := 256) d_M_forgets_3 (by decide) ?_
    refine ab_icmp_ge (tgt := 22) d_M_forgets_6 (by decide) (fun q1 => ?_) (fun q1 => ?_)
    · exact absurd ((nI_leI (a := 256) (b := i) (by omega) (by omega)).mp q1) (by omega)
    · refine ab_aload_n d_M_forgets_9 rfl rfl rfl ?_
      refine ab_get (f := 15) d_M_forgets_10 po rfl (by decide) (k10 8 rfl rfl) rfl ?_
      refine ab_iload_n d_M_forgets_13 rfl rfl ?_
      refine ab_iconst (v := 0) d_M_forgets_14 (by decide) ?_
      refine ab_zast d_M_forgets_15 tZ xa (vp_in_nI (by omega) (by decide)) ?_
      refine ab_gen (fun h2 e3 => ?_)
      have c4 : h2[m]? = some (.inr (12, [p0, p1, p2, p3, p4, p5, p6, p7, p8, p9, p10, p11, p12, p13, p14, .ref ic, p16, .ref la, p18, p19, p20, p21, p22, p23, p24, p25, p26, p27, p28])) := ab_other e3 (by omega) po
      have c5 : h2[ic]? = some (.inl (.boolean, 256, .inl (upd xf ((nI i)).toNatClampNeg (vp_nar .boolean 0)))) := ab_self e3 xa
      have fr6 : ab_fr (fun j => j = ic) h h2 := ab_fr_set (ab_fr_rf _ _) e3 (by first | (show _ = _; omega) | (show _ ∨ _; omega))
      clear e3
      obtain ⟨y7, c8⟩ : ∃ f : Nat → Int32, h2[ic]? = some (.inl (.boolean, 256, .inl f)) := ⟨_, c5⟩
      clear c5
      obtain ⟨x9, ex9⟩ : ∃ q : Int32, q = nI i + 1 := ⟨_, rfl⟩
      refine ab_iinc (v := x9) (lv' := [some (.ref m), some (.int x9)]) d_M_forgets_16 rfl (by rw [ex9]; rfl) (by decide) rfl ?_
      refine ab_goto (tgt := 2) d_M_forgets_19 (by decide) ?_
      subst ex9
      rw [nI_1]
      refine ab_widen (cells' := cells) (slots' := slots) (by first | exact Nat.le_refl _ | (show _ ≤ _; omega)) (by first | exact Nat.le_refl _ | (show _ ≤ _; omega)) ?_
      exact ih (i + 1) h2 y7 (by omega) c4 c8 (fun h1 xf1 q0 q1 qf => hk h1 xf1 q0 q1 (ab_fr_tr fr6 qf))
set_option maxRecDepth 20000 in
set_option maxHeartbeats 2000000 in
theorem l_fg4 {Po : Outcome → List ab_E → Prop} {mc ms cells slots : Nat} {p0 p1 p2 p3 p4 p5 p6 p7 p8 p9 p10 p11 p12 p13 p14 p16 p18 p19 p20 p21 p22 p23 p24 p25 p26 p27 p28 : Value} {m ic la : Nat} (h1m : ic ≠ m) (h2m : la ≠ m) (hcl : cells ≤ ({ frames := 0, cells := 0, slots := 0, locals := 0 } : Room).cells) (hsl : slots ≤ ({ frames := 0, cells := 0, slots := 0, locals := 0 } : Room).slots) : ∀ (n i : Nat) (h : List ab_E) (zf : Nat → Int32), i + n = 4 → h[m]? = some (.inr (12, [p0, p1, p2, p3, p4, p5, p6, p7, p8, p9, p10, p11, p12, p13, p14, .ref ic, p16, .ref la, p18, p19, p20, p21, p22, p23, p24, p25, p26, p27, p28])) → h[la]? = some (.inl (.int, 4, .inl zf)) → (∀ (h1 : List ab_E) (zf1 : Nat → Int32), h1[m]? = some (.inr (12, [p0, p1, p2, p3, p4, p5, p6, p7, p8, p9, p10, p11, p12, p13, p14, .ref ic, p16, .ref la, p18, p19, p20, p21, p22, p23, p24, p25, p26, p27, p28])) → h1[la]? = some (.inl (.int, 4, .inl zf1)) → ab_fr (fun j => j = la) h h1 → ab_V y_M_forgets { frames := 0, cells := 0, slots := 0, locals := 0 } Po mc ms cells slots 42 [some (.ref m), some (.int (nI 4))] [] h1) →
    ab_V y_M_forgets { frames := 0, cells := 0, slots := 0, locals := 0 } Po mc ms cells slots 24 [some (.ref m), some (.int (nI i))] [] h := by
  intro n
  induction n with
  | zero =>
    intro i h zf hi po za hk
    refine ab_iload_n d_M_forgets_24 rfl rfl ?_
    refine ab_iconst (v := 4) d_M_forgets_25 (by decide) ?_
    refine ab_icmp_ge (tgt := 42) d_M_forgets_26 (by decide) (fun q1 => ?_) (fun q1 => ?_)
    · have hiN : i = 4 := (by omega)
      subst hiN
      exact hk h zf po za (ab_fr_rf _ _)
    · exact absurd (nI_le (a := 4) (b := i) (by omega) (by omega)) q1
  | succ n ih =>
    intro i h zf hi po za hk
    refine ab_iload_n d_M_forgets_24 rfl rfl ?_
    refine ab_iconst (v := 4) d_M_forgets_25 (by decide) ?_
    refine ab_icmp_ge (tgt := 42) d_M_forgets_26 (by decide) (fun q1 => ?_) (fun q1 => ?_)
    · exact absurd ((nI_leI (a := 4) (b := i) (by omega) (by omega)).mp q1) (by omega)
    · refine ab_aload_n d_M_forgets_29 rfl rfl rfl ?_
      refine ab_get (f := 17) d_M_forgets_30 po rfl (by decide) (k10 10 rfl rfl) rfl ?_
      refine ab_iload_n d_M_forgets_33 rfl rfl ?_
      refine ab_iconst (v := 0) d_M_forgets_34 (by decide) ?_
      refine ab_iast d_M_forgets_35 tI za (vp_in_nI (by omega) (by decide)) ?_
      refine ab_gen (fun h2 e3 => ?_)
      have c4 : h2[m]? = some (.inr (12, [p0, p1, p2, p3, p4, p5, p6, p7, p8, p9, p10, p11, p12, p13, p14, .ref ic, p16, .ref la, p18, p19, p20, p21, p22, p23, p24, p25, p26, p27, p28])) := ab_other e3 (by omega) po
      have c5 : h2[la]? = some (.inl (.int, 4, .inl (upd zf ((nI i)).toNatClampNeg 0))) := ab_self e3 za
      have fr6 : ab_fr (fun j => j = la) h h2 := ab_fr_set (ab_fr_rf _ _) e3 (by first | (show _ = _; omega) | (show _ ∨ _; omega))
      clear e3
      obtain ⟨y7, c8⟩ : ∃ f : Nat → Int32, h2[la]? = some (.inl (.int, 4, .inl f)) := ⟨_, c5⟩
      clear c5
      obtain ⟨x9, ex9⟩ : ∃ q : Int32, q = nI i + 1 := ⟨_, rfl⟩
      refine ab_iinc (v := x9) (lv' := [some (.ref m), some (.int x9)]) d_M_forgets_36 rfl (by rw [ex9]; rfl) (by decide) rfl ?_
      refine ab_goto (tgt := 24) d_M_forgets_39 (by decide) ?_
      subst ex9
      rw [nI_1]
      refine ab_widen (cells' := cells) (slots' := slots) (by first | exact Nat.le_refl _ | (show _ ≤ _; omega)) (by first | exact Nat.le_refl _ | (show _ ≤ _; omega)) ?_
      exact ih (i + 1) h2 y7 (by omega) c4 c8 (fun h1 zf1 q0 q1 qf => hk h1 zf1 q0 q1 (ab_fr_tr fr6 qf))
set_option maxRecDepth 20000 in
set_option maxHeartbeats 2000000 in
theorem r_M_forgets {h : List ab_E}  {p0 p1 p2 p3 p4 p5 p6 p7 p8 p9 p10 p11 p12 p13 p14 p16 p18 p19 p20 p21 p22 p23 p24 p25 p26 p27 p28 : Value} {xf : Nat → Int32} {zf : Nat → Int32} {m ic la : Nat}  (po : h[m]? = some (.inr (12, [p0, p1, p2, p3, p4, p5, p6, p7, p8, p9, p10, p11, p12, p13, p14, .ref ic, p16, .ref la, p18, p19, p20, p21, p22, p23, p24, p25, p26, p27, p28]))) (xa : h[ic]? = some (.inl (.boolean, 256, .inl xf))) (za : h[la]? = some (.inl (.int, 4, .inl zf))) (h1m : ic ≠ m) (h2m : la ≠ m) (h3m : la ≠ ic) : ab_M y_M_forgets { frames := 0, cells := 0, slots := 0, locals := 0 } [.ref m] h (ab_A none (fun h1 => ab_fr (fun j => j = ic ∨ j = la) h h1)) := by
  refine ab_of2 (lv := [some (.ref m), none]) 1 rfl rfl (Nat.le_of_ble_eq_true rfl) ?_
  refine ab_iconst (v := 0) d_M_forgets_0 (by decide) ?_
  refine ab_istore_n (lv' := [some (.ref m), some (.int 0)]) d_M_forgets_1 rfl (by decide) rfl ?_
  refine l_fg256 h1m h2m (Nat.le_of_ble_eq_true rfl) (Nat.le_of_ble_eq_true rfl) 256 0 h xf (by omega) po xa (fun h1 y2 c3 c4 f5 => ?_)
  have c6 : h1[la]? = some (.inl (.int, 4, .inl zf)) := ab_fr_at f5 za (by omega)
  have fr7 : ab_fr (fun j => j = ic ∨ j = la) h h1 := ab_fr_tr (ab_fr_rf _ _) (ab_fr_mono f5 (by intro i hi; first | omega | (dsimp only at *; omega)))
  clear f5
  refine ab_iconst (v := 0) d_M_forgets_22 (by decide) ?_
  refine ab_istore_n (lv' := [some (.ref m), some (.int 0)]) d_M_forgets_23 rfl (by decide) rfl ?_
  refine l_fg4 h1m h2m (Nat.le_of_ble_eq_true rfl) (Nat.le_of_ble_eq_true rfl) 4 0 h1 zf (by omega) c3 c6 (fun h8 y9 c10 c11 f12 => ?_)
  have c13 : h8[ic]? = some (.inl (.boolean, 256, .inl y2)) := ab_fr_at f12 c4 (by omega)
  have fr14 : ab_fr (fun j => j = ic ∨ j = la) h h8 := ab_fr_tr fr7 (ab_fr_mono f12 (by intro i hi; first | omega | (dsimp only at *; omega)))
  clear c6 c3 c4 f12 fr7
  try clear h1
  exact ab_vret d_M_forgets_42 rfl (Nat.le_refl _) (Nat.le_refl _) (by exact ⟨rfl, fr14⟩)
