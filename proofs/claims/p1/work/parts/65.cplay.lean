def in_Behind (b : Nat) : Nat → Prop := fun i => b + 8 ≤ i ∧ i ≤ b + 103
theorem fr_Behind {S : Nat → Prop} {h h1 : List ab_E} {b : Nat} (hf : ab_fr S h h1) (h0 : ∀ j, j < 16 → at_World h (b + 8 + 6 * j) (fun _ => 0) a0_World) (hn : ∀ i, in_Behind b i → ¬ S i) : ∀ j, j < 16 → at_World h1 (b + 8 + 6 * j) (fun _ => 0) a0_World := fun j hj => fr_World hf (h0 j hj) (fun i hi => hn i (by simp only [in_World] at hi; show _ ∧ _; omega))
def s0_Play : Nat → Int32 := upd (fun _ => 0) 2 1
def at_Play0 (h : List ab_E) (b : Nat) : Prop := at_Play h b s0_Play (fun _ _ => 0) ∧ at_World h (b + 1) (fun _ => 0) a0_World ∧ h[b + 7]? = some (.inl (.object "WorldEngine$World", 16, .inr (.inr (.inr (.inr (fun j => if j < 16 then some (b + 8 + 6 * j) else none)))))) ∧ (∀ j, j < 16 → at_World h (b + 8 + 6 * j) (fun _ => 0) a0_World) ∧ at_Ticker h (b + 105) .null .null (fun _ => 0) (fun _ _ => 0) ∧ at_Row h (b + 106) .null .null .null (fun _ => 0) (fun _ _ => 0)
def in_Play0 (b : Nat) : Nat → Prop := fun i => b ≤ i ∧ i ≤ b + 119
theorem fr_Play0 {S : Nat → Prop} {h h1 : List ab_E} {b : Nat}  (hf : ab_fr S h h1) (h0 : at_Play0 h b ) (hn : ∀ i, in_Play0 b i → ¬ S i) : at_Play0 h1 b  := by
  obtain ⟨g0, g1, g2, g3, g4, g5⟩ := h0
  exact ⟨fr_Play hf g0 (fun i hi => hn i (by simp only [in_Play] at hi; show _ ∧ _; omega)), fr_World hf g1 (fun i hi => hn i (by simp only [in_World] at hi; show _ ∧ _; omega)), ab_fr_at hf g2 (hn _ (by show _ ∧ _; omega)), fun j hj => fr_World hf (g3 j hj) (fun i hi => hn i (by simp only [in_World] at hi; show _ ∧ _; omega)), fr_Ticker hf g4 (fun i hi => hn i (by simp only [in_Ticker] at hi; show _ ∧ _; omega)), fr_Row hf g5 (fun i hi => hn i (by simp only [in_Row] at hi; show _ ∧ _; omega))⟩
/-- i worlds of the row behind have been made -/
def ab_prow (h : List ab_E) (b i : Nat) : Prop :=
  h.length = b + 8 + 6 * i ∧ h[b]? = some (.inr (10, [.ref (b + 1), .int 0, .int 0, .int 0, .null, .int 0, .ref (b + 7), .null, .null, .null, .null, .null, .null, .null])) ∧ h[b + 7]? = some (.inl (.object "WorldEngine$World", 16, .inr (.inr (.inr (.inr (fun j => if j < i then some (b + 8 + 6 * j) else none)))))) ∧ at_World h (b + 1) (fun _ => 0) a0_World ∧ ∀ j, j < i → at_World h (b + 8 + 6 * j) (fun _ => 0) a0_World
theorem ab_up_prow {b i : Nat} (hi : i < 2 ^ 31) : va_up (fun j => if j < i then some (b + 8 + 6 * j) else none) (nI i).toNatClampNeg (some (b + 8 + 6 * i)) = fun j => if j < i + 1 then some (b + 8 + 6 * j) else none := by
  rw [nI_clamp hi]
  funext j
  unfold va_up
  by_cases hj : j = i
  · subst hj; rw [if_pos rfl, if_pos (by omega)]
  · rw [if_neg hj]
    show (if j < i then some (b + 8 + 6 * j) else none) = _
    by_cases h2 : j < i
    · rw [if_pos h2, if_pos (by omega)]
    · rw [if_neg h2, if_neg (by omega)]
set_option maxRecDepth 20000 in
set_option maxHeartbeats 2000000 in
theorem l_Play_init {b : Nat} {Po : Outcome → List ab_E → Prop} : ∀ (k i : Nat) (h : List ab_E), i + k = 16 → ab_prow h b i → (∀ h1, ab_prow h1 b 16 → ab_fr (in_up b) h h1 → ab_V y_Play_init { frames := 4, cells := 119, slots := 251000, locals := 160 } Po 119 251000 (7 + 6 * 16) (14656 + 14640 * 16) 51 [some (.ref b), some (.int (nI 16))] [] h1) →
    ab_V y_Play_init { frames := 4, cells := 119, slots := 251000, locals := 160 } Po 119 251000 (7 + 6 * i) (14656 + 14640 * i) 26 [some (.ref b), some (.int (nI i))] [] h := by
  intro k
  induction k with
  | zero =>
    intro i h hi hN hk
    have hL : h.length = b + 8 + 6 * i := hN.1
    have hO := hN.2.1
    have hA := hN.2.2.1
    refine ab_iload_n d_Play_init_26 rfl rfl ?_
    refine ab_bipush (v := 16) d_Play_init_27 (by decide) ?_
    refine ab_icmp_ge (tgt := 51) d_Play_init_29 (by decide) (fun q1 => ?_) (fun q1 => ?_)
    · obtain rfl : i = 16 := (by omega); exact hk h hN (ab_fr_rf _ _)
    · exact absurd (nI_le (a := 16) (b := i) (by omega) (by omega)) q1
  | succ k ih =>
    intro i h hi hN hk
    have hL : h.length = b + 8 + 6 * i := hN.1
    have hO := hN.2.1
    have hA := hN.2.2.1
    refine ab_iload_n d_Play_init_26 rfl rfl ?_
    refine ab_bipush (v := 16) d_Play_init_27 (by decide) ?_
    refine ab_icmp_ge (tgt := 51) d_Play_init_29 (by decide) (fun q1 => ?_) (fun q1 => ?_)
    · exact absurd ((nI_leI (a := 16) (by decide) (by omega)).mp q1) (by omega)
    · refine ab_aload_n d_Play_init_32 rfl rfl rfl ?_
      refine ab_get (f := 6) d_Play_init_33 hO rfl (by decide) (k2 142 rfl rfl) rfl ?_
      refine ab_iload_n d_Play_init_36 rfl rfl ?_
      refine ab_newL (ci := 7) (fs := [.int 0, .int 0, .int 0, .int 0, .int 0, .int 0, .int 0, .null, .null, .int 0, .int 0, .null, .null, .int 0, .null, .int 0]) hL d_Play_init_37 rfl (k1 195 rfl rfl) (k1 196 rfl rfl) (k1 10 rfl rfl) rfl rfl (show 7 + 6 * i + 1 ≤ 119 by omega) (show 14656 + 14640 * i + 16 ≤ 251000 by omega) (fun h2 e3 e4 e5 => ?_)
      have c6 : h2[b + 8 + 6 * i]? = some (.inr (7, [.int 0, .int 0, .int 0, .int 0, .int 0, .int 0, .int 0, .null, .null, .int 0, .int 0, .null, .null, .int 0, .null, .int 0])) := e4
      have c7 : h2[b]? = some (.inr (10, [.ref (b + 1), .int 0, .int 0, .int 0, .null, .int 0, .ref (b + 7), .null, .null, .null, .null, .null, .null, .null])) := (e5 _ (by omega)).trans hO
      have c8 : h2[b+7]? = some (.inl (.object "WorldEngine$World", 16, .inr (.inr (.inr (.inr (fun j => if j < i then some (b + 8 + 6 * j) else none)))))) := (e5 _ (by omega)).trans hA
      have l9 : h2.length = b + 8 + 6 * i + 1 := e3
      refine ab_dup d_Play_init_40 rfl ?_
      refine ab_callI_v (As := []) (rest := [.ref (b + 8 + 6 * i), .int (nI i), .ref (b + 7)]) d_Play_init_41 (c_World_init c6 l9) (ab_mkC s_World_init (Nat.le_of_ble_eq_true rfl) (Nat.le_of_ble_eq_true rfl) (show 7 + 6 * i + 1 + 5 ≤ 119 by omega) (show 14656 + 14640 * i + 16 + 14624 ≤ 251000 by omega)) (k1 197 rfl rfl) i_World_init rfl (k1 199 rfl rfl) rfl (Nat.le_of_ble_eq_true rfl) (fun h10 q11 => ?_)
      obtain ⟨kf12, l13, f14⟩ := q11
      replace l13 : h10.length = b + 8 + 6 * i + 6 := l13
      have c15 : h10[b]? = some (.inr (10, [.ref (b + 1), .int 0, .int 0, .int 0, .null, .int 0, .ref (b + 7), .null, .null, .null, .null, .null, .null, .null])) := ab_fr_at f14 c7 (by simp only [in_World] <;> omega)
      have c16 : h10[b+7]? = some (.inl (.object "WorldEngine$World", 16, .inr (.inr (.inr (.inr (fun j => if j < i then some (b + 8 + 6 * j) else none)))))) := ab_fr_at f14 c8 (by simp only [in_World] <;> omega)
      refine ab_aast d_Play_init_44 tW c16 kf12.1 rfl (vp_in_nI (by omega) (by omega)) ?_
      refine ab_gen (fun h17 e18 => ?_)
      have c19 : h17[b]? = some (.inr (10, [.ref (b + 1), .int 0, .int 0, .int 0, .null, .int 0, .ref (b + 7), .null, .null, .null, .null, .null, .null, .null])) := ab_other e18 (by omega) c15
      have c20 : h17[b+7]? = some (.inl (.object "WorldEngine$World", 16, .inr (.inr (.inr (.inr (va_up (fun j => if j < i then some (b + 8 + 6 * j) else none) (nI i).toNatClampNeg (some (b + 8 + 6 * i)))))))) := ab_self e18 c16
      have l21 : h17.length = b + 8 + 6 * i + 6 := by rw [e18]; exact List.length_set.trans l13
      have f22 : ab_fr (fun i => i = b+7) h10 h17 := ab_fr_set (ab_fr_rf _ _) e18 rfl
      have kf23 : at_World h17 (b + 8 + 6 * i) (fun _ => 0) a0_World := fr_World f22 kf12 (by intro i hi hs; simp only [in_World] at hi hs <;> omega)
      obtain ⟨x24, ex24⟩ : ∃ q : Int32, q = nI i + 1 := ⟨_, rfl⟩
      refine ab_iinc (v := x24) (lv' := [some (.ref b), some (.int x24)]) d_Play_init_45 rfl (by rw [ex24]; rfl) (by decide) rfl ?_
      refine ab_goto (tgt := 26) d_Play_init_48 (by decide) ?_
      subst ex24
      rw [nI_1]
      rw [ab_up_prow (by omega)] at c20
      have fr : ab_fr (in_up b) h h17 := (ab_fr_set (ab_fr_tr (ab_fr_new (ab_fr_rf _ _) e5 e3) (ab_fr_mono f14 (by intro i hi; simp only [in_World, in_up] at * <;> omega))) e18 (by first | (show _ ∧ _; omega) | (show _ ∨ _; omega) | (show _ = _; omega) | (show _ ≤ _; omega)))
      have fr2 : ab_fr (fun q => q = b + 7 ∨ (b + 8 + 6 * i ≤ q ∧ q ≤ b + 8 + 6 * i + 5)) h h17 := (ab_fr_set (ab_fr_tr (ab_fr_new (ab_fr_rf _ _) e5 e3) (ab_fr_mono f14 (by intro i2 hi2; simp only [in_World] at hi2; show _ ∨ _; omega))) e18 (by first | (show _ ∧ _; omega) | (show _ ∨ _; omega) | (show _ = _; omega) | (show _ ≤ _; omega)))
      refine ab_widen (cells' := 7 + 6 * (i + 1)) (slots' := 14656 + 14640 * (i + 1)) (show 7 + 6 * i + 1 + 5 ≤ 7 + 6 * (i + 1) by omega) (show 14656 + 14640 * i + 16 + 14624 ≤ 14656 + 14640 * (i + 1) by omega) ?_
      exact ih (i + 1) h17 (by omega) ⟨by rw [l21]; omega, c19, c20, fr_World fr2 hN.2.2.2.1 (by intro q hq hs; simp only [in_World] at hq; rcases hs with hs | hs <;> omega), fun j hj => by rcases Nat.lt_succ_iff_lt_or_eq.mp hj with q | q; exact fr_World fr2 (hN.2.2.2.2 j q) (by intro q2 hq hs; simp only [in_World] at hq; rcases hs with hs | hs <;> omega); subst q; exact kf23⟩ (fun h1 q1 q2 => hk h1 q1 (ab_fr_tr fr q2))
set_option maxRecDepth 20000 in
set_option maxHeartbeats 2000000 in
theorem c_Play_init {h : List ab_E}  {b : Nat}  (ho : h[b]? = some (.inr (10, [.null, .int 0, .int 0, .int 0, .null, .int 0, .null, .null, .null, .null, .null, .null, .null, .null]))) (hlen : h.length = b + 1) : ab_M y_Play_init { frames := 4, cells := 119, slots := 251000, locals := 160 } [.ref b] h (ab_A none (fun h1 => at_Play0 h1 b ∧ h1.length = b + 120 ∧ ab_fr (in_up b) h h1)) := by
  refine ab_of2 (lv := [some (.ref b), none]) 1 rfl rfl (Nat.le_of_ble_eq_true rfl) ?_
  refine ab_aload_n d_Play_init_0 rfl rfl rfl ?_
  refine ab_objInit d_Play_init_1 (k1 194 rfl rfl) (k1 37 rfl rfl) (k1 38 rfl rfl) (by decide) (by decide) ?_
  refine ab_aload_n d_Play_init_4 rfl rfl rfl ?_
  refine ab_newL (ci := 7) (fs := [.int 0, .int 0, .int 0, .int 0, .int 0, .int 0, .int 0, .null, .null, .int 0, .int 0, .null, .null, .int 0, .null, .int 0]) hlen d_Play_init_5 rfl (k1 195 rfl rfl) (k1 196 rfl rfl) (k1 10 rfl rfl) rfl rfl (by decide) (by decide) (fun h1 e2 e3 e4 => ?_)
  have c5 : h1[b + 1]? = some (.inr (7, [.int 0, .int 0, .int 0, .int 0, .int 0, .int 0, .int 0, .null, .null, .int 0, .int 0, .null, .null, .int 0, .null, .int 0])) := e3
  have c6 : h1[b]? = some (.inr (10, [.null, .int 0, .int 0, .int 0, .null, .int 0, .null, .null, .null, .null, .null, .null, .null, .null])) := (e4 _ (by omega)).trans ho
  have fr7 : ab_fr (in_up b) h h1 := ab_fr_new (ab_fr_rf _ _) e4 e2 hlen
  have l8 : h1.length = b + 2 := e2
  clear e2 e3 e4
  refine ab_dup d_Play_init_8 rfl ?_
  refine ab_callI_v (As := []) (rest := [.ref (b + 1), .ref b]) d_Play_init_9 (c_World_init c5 l8) (ab_mkC s_World_init (Nat.le_of_ble_eq_true rfl) (Nat.le_of_ble_eq_true rfl) (by decide) (by decide)) (k1 197 rfl rfl) i_World_init rfl (k1 199 rfl rfl) rfl (Nat.le_of_ble_eq_true rfl) (fun h9 q10 => ?_)
  obtain ⟨kf11, l12, f13⟩ := q10
  replace l12 : h9.length = b + 7 := l12
  have c14 : h9[b]? = some (.inr (10, [.null, .int 0, .int 0, .int 0, .null, .int 0, .null, .null, .null, .null, .null, .null, .null, .null])) := ab_fr_at f13 c6 (by simp only [in_World] <;> omega)
  have fr15 : ab_fr (in_up b) h h9 := ab_fr_tr fr7 (ab_fr_mono f13 (by intro i hi; simp only [in_World, in_up] at * <;> omega))
  clear c6 c5 l8 f13 fr7
  try clear h1
  replace kf11 : at_World h9 (b + 1) (fun _ => 0) a0_World := kf11
  refine ab_putF (f := 0) d_Play_init_12 c14 rfl (by decide) (k2 130 rfl rfl) rfl rfl rfl rfl (fun _ => rfl) (fun _ => rfl) (Nat.le_of_ble_eq_true rfl) ?_
  show ab_V _ _ _ _ _ _ _ 15 [some (.ref b), none] [] (h9.set b (.inr (10, [.ref (b + 1), .int 0, .int 0, .int 0, .null, .int 0, .null, .null, .null, .null, .null, .null, .null, .null])))
  refine ab_gen (fun h16 e17 => ?_)
  have c18 : h16[b]? = some (.inr (10, [.ref (b + 1), .int 0, .int 0, .int 0, .null, .int 0, .null, .null, .null, .null, .null, .null, .null, .null])) := ab_self e17 c14
  have l19 : h16.length = b + 7 := by rw [e17]; exact List.length_set.trans l12
  have f20 : ab_fr (fun i => i = b) h9 h16 := ab_fr_set (ab_fr_rf _ _) e17 rfl
  have kf21 : at_World h16 (b + 1) (fun _ => 0) a0_World := fr_World f20 kf11 (by intro i hi hs; simp only [in_World] at hi hs <;> omega)
  have fr22 : ab_fr (in_up b) h h16 := ab_fr_set fr15 e17 (by first | (show _ ∧ _; omega) | (show _ ∨ _; omega) | (show _ = _; omega) | (show _ ≤ _; omega))
  clear c14 kf11 l12 fr15 e17 f20
  try clear h9
  refine ab_aload_n d_Play_init_15 rfl rfl rfl ?_
  refine ab_bipush (v := 16) d_Play_init_16 (by decide) ?_
  refine ab_anewL (N := 16) l19 d_Play_init_18 (k1 195 rfl rfl) (k2 47 rfl rfl) tW (by decide) (by decide) (by decide) (by decide) (by decide) (fun h23 e24 e25 e26 => ?_)
  have c27 : h23[b + 7]? = some (.inl (.object "WorldEngine$World", 16, .inr (.inr (.inr (.inr (fun _ => none)))))) := e25
  have c28 : h23[b]? = some (.inr (10, [.ref (b + 1), .int 0, .int 0, .int 0, .null, .int 0, .null, .null, .null, .null, .null, .null, .null, .null])) := (e26 _ (by omega)).trans c18
  have f29 : ab_fr (fun i => False) h16 h23 := ab_fr_new (ab_fr_rf _ _) e26 e24 l19
  have kf30 : at_World h23 (b + 1) (fun _ => 0) a0_World := fr_World f29 kf21 (by intro i hi hs; simp only [in_World] at hi hs <;> omega)
  have fr31 : ab_fr (in_up b) h h23 := ab_fr_new fr22 e26 e24 l19
  have l32 : h23.length = b + 8 := e24
  clear c18 kf21 e24 e25 e26 f29 l19 fr22
  try clear h16
  refine ab_putF (f := 6) d_Play_init_21 c28 rfl (by decide) (k2 142 rfl rfl) rfl rfl rfl rfl (fun _ => rfl) (fun _ => rfl) (Nat.le_of_ble_eq_true rfl) ?_
  show ab_V _ _ _ _ _ _ _ 24 [some (.ref b), none] [] (h23.set b (.inr (10, [.ref (b + 1), .int 0, .int 0, .int 0, .null, .int 0, .ref (b + 7), .null, .null, .null, .null, .null, .null, .null])))
  refine ab_gen (fun h33 e34 => ?_)
  have c35 : h33[b]? = some (.inr (10, [.ref (b + 1), .int 0, .int 0, .int 0, .null, .int 0, .ref (b + 7), .null, .null, .null, .null, .null, .null, .null])) := ab_self e34 c28
  have c36 : h33[b+7]? = some (.inl (.object "WorldEngine$World", 16, .inr (.inr (.inr (.inr (fun _ => none)))))) := ab_other e34 (by omega) c27
  have l37 : h33.length = b + 8 := by rw [e34]; exact List.length_set.trans l32
  have f38 : ab_fr (fun i => i = b) h23 h33 := ab_fr_set (ab_fr_rf _ _) e34 rfl
  have kf39 : at_World h33 (b + 1) (fun _ => 0) a0_World := fr_World f38 kf30 (by intro i hi hs; simp only [in_World] at hi hs <;> omega)
  have fr40 : ab_fr (in_up b) h h33 := ab_fr_set fr31 e34 (by first | (show _ ∧ _; omega) | (show _ ∨ _; omega) | (show _ = _; omega) | (show _ ≤ _; omega))
  clear c28 c27 kf30 l32 fr31 e34 f38
  try clear h23
  refine ab_iconst (v := 0) d_Play_init_24 (by decide) ?_
  refine ab_istore_n (lv' := [some (.ref b), some (.int 0)]) d_Play_init_25 rfl (by decide) rfl ?_
  refine l_Play_init 16 0 h33 (by omega) ⟨l37, c35, by rw [c36]; congr, kf39, fun j hj => absurd hj (by omega)⟩ (fun h1 qN qF => ?_)
  obtain ⟨qL, qO, qA, qW, qB⟩ := qN
  have qL : h1.length = b + 104 := qL
  refine ab_sub (lv' := [some (.ref b), none]) (fun i v hv => by match i, hv with | 0, hv => exact hv | 1, hv => cases hv | i + 2, hv => cases hv) ?_
  have frz : ab_fr (in_up b) h h1 := ab_fr_tr fr40 qF
  refine ab_aload_n d_Play_init_51 rfl rfl rfl ?_
  refine ab_iconst (v := 1) d_Play_init_52 (by decide) ?_
  refine ab_put (f := 2) d_Play_init_53 qO rfl (by decide) (k2 134 rfl rfl) rfl rfl (fun _ => rfl) (fun _ => rfl) (Nat.le_of_ble_eq_true rfl) ?_
  show ab_V _ _ _ _ _ _ _ 56 [some (.ref b), none] [] (h1.set b (.inr (10, [.ref (b + 1), .int 0, .int 1, .int 0, .null, .int 0, .ref (b + 7), .null, .null, .null, .null, .null, .null, .null])))
  refine ab_gen (fun h41 e42 => ?_)
  have c43 : h41[b]? = some (.inr (10, [.ref (b + 1), .int 0, .int 1, .int 0, .null, .int 0, .ref (b + 7), .null, .null, .null, .null, .null, .null, .null])) := ab_self e42 qO
  have c44 : h41[b+7]? = some (.inl (.object "WorldEngine$World", 16, .inr (.inr (.inr (.inr (fun j => if j < 16 then some (b + 8 + 6 * j) else none)))))) := ab_other e42 (by omega) qA
  have l45 : h41.length = b + 104 := by rw [e42]; exact List.length_set.trans qL
  have f46 : ab_fr (fun i => i = b) h1 h41 := ab_fr_set (ab_fr_rf _ _) e42 rfl
  have kf47 : at_World h41 (b + 1) (fun _ => 0) a0_World := fr_World f46 qW (by intro i hi hs; simp only [in_World] at hi hs <;> omega)
  have kf48 : ∀ j, j < 16 → at_World h41 (b + 8 + 6 * j) (fun _ => 0) a0_World := fr_Behind f46 qB (by intro i hi hs; simp only [in_Behind] at hi hs <;> omega)
  have fr49 : ab_fr (in_up b) h h41 := ab_fr_set frz e42 (by first | (show _ ∧ _; omega) | (show _ ∨ _; omega) | (show _ = _; omega) | (show _ ≤ _; omega))
  clear e42 f46
  try clear h1
  refine ab_aload_n d_Play_init_56 rfl rfl rfl ?_
  refine ab_sipush (v := 256) d_Play_init_57 (by decide) ?_
  refine ab_newaL (N := 256) l45 d_Play_init_60 rfl (k1 143 rfl rfl) tI (Or.inl rfl) (by decide) (by decide) (by decide) (by decide) (by decide) (fun h50 e51 e52 e53 => ?_)
  have c54 : h50[b + 104]? = some (.inl (.int, 256, .inl (fun _ => 0))) := e52
  have c55 : h50[b]? = some (.inr (10, [.ref (b + 1), .int 0, .int 1, .int 0, .null, .int 0, .ref (b + 7), .null, .null, .null, .null, .null, .null, .null])) := (e53 _ (by omega)).trans c43
  have c56 : h50[b+7]? = some (.inl (.object "WorldEngine$World", 16, .inr (.inr (.inr (.inr (fun j => if j < 16 then some (b + 8 + 6 * j) else none)))))) := (e53 _ (by omega)).trans c44
  have f57 : ab_fr (fun i => False) h41 h50 := ab_fr_new (ab_fr_rf _ _) e53 e51 l45
  have kf58 : at_World h50 (b + 1) (fun _ => 0) a0_World := fr_World f57 kf47 (by intro i hi hs; simp only [in_World] at hi hs <;> omega)
  have kf59 : ∀ j, j < 16 → at_World h50 (b + 8 + 6 * j) (fun _ => 0) a0_World := fr_Behind f57 kf48 (by intro i hi hs; simp only [in_Behind] at hi hs <;> omega)
  have fr60 : ab_fr (in_up b) h h50 := ab_fr_new fr49 e53 e51 l45
  have l61 : h50.length = b + 105 := e51
  clear c43 c44 kf47 kf48 e51 e52 e53 f57 l45 fr49
  try clear h41
  refine ab_putF (f := 4) d_Play_init_62 c55 rfl (by decide) (k2 138 rfl rfl) rfl rfl rfl rfl (fun _ => rfl) (fun _ => rfl) (Nat.le_of_ble_eq_true rfl) ?_
  show ab_V _ _ _ _ _ _ _ 65 [some (.ref b), none] [] (h50.set b (.inr (10, [.ref (b + 1), .int 0, .int 1, .int 0, .ref (b + 104), .int 0, .ref (b + 7), .null, .null, .null, .null, .null, .null, .null])))
  refine ab_gen (fun h62 e63 => ?_)
  have c64 : h62[b]? = some (.inr (10, [.ref (b + 1), .int 0, .int 1, .int 0, .ref (b + 104), .int 0, .ref (b + 7), .null, .null, .null, .null, .null, .null, .null])) := ab_self e63 c55
  have c65 : h62[b+7]? = some (.inl (.object "WorldEngine$World", 16, .inr (.inr (.inr (.inr (fun j => if j < 16 then some (b + 8 + 6 * j) else none)))))) := ab_other e63 (by omega) c56
  have c66 : h62[b+104]? = some (.inl (.int, 256, .inl (fun _ => 0))) := ab_other e63 (by omega) c54
  have l67 : h62.length = b + 105 := by rw [e63]; exact List.length_set.trans l61
  have f68 : ab_fr (fun i => i = b) h50 h62 := ab_fr_set (ab_fr_rf _ _) e63 rfl
  have kf69 : at_World h62 (b + 1) (fun _ => 0) a0_World := fr_World f68 kf58 (by intro i hi hs; simp only [in_World] at hi hs <;> omega)
  have kf70 : ∀ j, j < 16 → at_World h62 (b + 8 + 6 * j) (fun _ => 0) a0_World := fr_Behind f68 kf59 (by intro i hi hs; simp only [in_Behind] at hi hs <;> omega)
  have fr71 : ab_fr (in_up b) h h62 := ab_fr_set fr60 e63 (by first | (show _ ∧ _; omega) | (show _ ∨ _; omega) | (show _ = _; omega) | (show _ ≤ _; omega))
  clear c55 c56 c54 kf58 kf59 l61 fr60 e63 f68
  try clear h50
  refine ab_aload_n d_Play_init_65 rfl rfl rfl ?_
  refine ab_newL (ci := 9) (fs := [.null, .null, .null]) l67 d_Play_init_66 rfl (k2 48 rfl rfl) (k2 49 rfl rfl) (k1 12 rfl rfl) rfl rfl (by decide) (by decide) (fun h72 e73 e74 e75 => ?_)
  have c76 : h72[b + 105]? = some (.inr (9, [.null, .null, .null])) := e74
  have c77 : h72[b]? = some (.inr (10, [.ref (b + 1), .int 0, .int 1, .int 0, .ref (b + 104), .int 0, .ref (b + 7), .null, .null, .null, .null, .null, .null, .null])) := (e75 _ (by omega)).trans c64
  have c78 : h72[b+7]? = some (.inl (.object "WorldEngine$World", 16, .inr (.inr (.inr (.inr (fun j => if j < 16 then some (b + 8 + 6 * j) else none)))))) := (e75 _ (by omega)).trans c65
  have c79 : h72[b+104]? = some (.inl (.int, 256, .inl (fun _ => 0))) := (e75 _ (by omega)).trans c66
  have f80 : ab_fr (fun i => False) h62 h72 := ab_fr_new (ab_fr_rf _ _) e75 e73 l67
  have kf81 : at_World h72 (b + 1) (fun _ => 0) a0_World := fr_World f80 kf69 (by intro i hi hs; simp only [in_World] at hi hs <;> omega)
  have kf82 : ∀ j, j < 16 → at_World h72 (b + 8 + 6 * j) (fun _ => 0) a0_World := fr_Behind f80 kf70 (by intro i hi hs; simp only [in_Behind] at hi hs <;> omega)
  have fr83 : ab_fr (in_up b) h h72 := ab_fr_new fr71 e75 e73 l67
  have l84 : h72.length = b + 106 := e73
  clear c64 c65 c66 kf69 kf70 e73 e74 e75 f80 l67 fr71
  try clear h62
  refine ab_dup d_Play_init_69 rfl ?_
  refine ab_callI_v (As := []) (rest := [.ref (b + 105), .ref b]) d_Play_init_70 (c_Ticker_init c76 l84) (ab_mkC s_Ticker_init (Nat.le_of_ble_eq_true rfl) (Nat.le_of_ble_eq_true rfl) (by decide) (by decide)) (k2 50 rfl rfl) i_Ticker_init rfl (k2 52 rfl rfl) rfl (Nat.le_of_ble_eq_true rfl) (fun h85 q86 => ?_)
  obtain ⟨kf87, kf88, l89, f90⟩ := q86
  replace l89 : h85.length = b + 114 := l89
  have c91 : h85[b]? = some (.inr (10, [.ref (b + 1), .int 0, .int 1, .int 0, .ref (b + 104), .int 0, .ref (b + 7), .null, .null, .null, .null, .null, .null, .null])) := ab_fr_at f90 c77 (by simp only [in_up] <;> omega)
  have c92 : h85[b+7]? = some (.inl (.object "WorldEngine$World", 16, .inr (.inr (.inr (.inr (fun j => if j < 16 then some (b + 8 + 6 * j) else none)))))) := ab_fr_at f90 c78 (by simp only [in_up] <;> omega)
  have c93 : h85[b+104]? = some (.inl (.int, 256, .inl (fun _ => 0))) := ab_fr_at f90 c79 (by simp only [in_up] <;> omega)
  have kf94 : at_World h85 (b + 1) (fun _ => 0) a0_World := fr_World f90 kf81 (by intro i hi hs; simp only [in_World, in_up] at hi hs <;> omega)
  have kf95 : ∀ j, j < 16 → at_World h85 (b + 8 + 6 * j) (fun _ => 0) a0_World := fr_Behind f90 kf82 (by intro i hi hs; simp only [in_Behind, in_up] at hi hs <;> omega)
  have fr96 : ab_fr (in_up b) h h85 := ab_fr_tr fr83 (ab_fr_mono f90 (by intro i hi; simp only [in_up, in_up] at * <;> omega))
  clear c77 c78 c79 c76 kf81 kf82 l84 f90 fr83
  try clear h72
  replace kf87 : at_Ticker h85 (b + 105) .null .null (fun _ => 0) (fun _ _ => 0) := kf87
  replace kf88 : at_Row h85 ((b + 105) + 1) .null .null .null (fun _ => 0) (fun _ _ => 0) := kf88
  refine ab_putF (f := 7) d_Play_init_73 c91 rfl (by decide) (k2 143 rfl rfl) rfl rfl rfl rfl (fun _ => rfl) (fun _ => rfl) (Nat.le_of_ble_eq_true rfl) ?_
  show ab_V _ _ _ _ _ _ _ 76 [some (.ref b), none] [] (h85.set b (.inr (10, [.ref (b + 1), .int 0, .int 1, .int 0, .ref (b + 104), .int 0, .ref (b + 7), .ref (b + 105), .null, .null, .null, .null, .null, .null])))
  refine ab_gen (fun h97 e98 => ?_)
  have c99 : h97[b]? = some (.inr (10, [.ref (b + 1), .int 0, .int 1, .int 0, .ref (b + 104), .int 0, .ref (b + 7), .ref (b + 105), .null, .null, .null, .null, .null, .null])) := ab_self e98 c91
  have c100 : h97[b+7]? = some (.inl (.object "WorldEngine$World", 16, .inr (.inr (.inr (.inr (fun j => if j < 16 then some (b + 8 + 6 * j) else none)))))) := ab_other e98 (by omega) c92
  have c101 : h97[b+104]? = some (.inl (.int, 256, .inl (fun _ => 0))) := ab_other e98 (by omega) c93
  have l102 : h97.length = b + 114 := by rw [e98]; exact List.length_set.trans l89
  have f103 : ab_fr (fun i => i = b) h85 h97 := ab_fr_set (ab_fr_rf _ _) e98 rfl
  have kf104 : at_World h97 (b + 1) (fun _ => 0) a0_World := fr_World f103 kf94 (by intro i hi hs; simp only [in_World] at hi hs <;> omega)
  have kf105 : ∀ j, j < 16 → at_World h97 (b + 8 + 6 * j) (fun _ => 0) a0_World := fr_Behind f103 kf95 (by intro i hi hs; simp only [in_Behind] at hi hs <;> omega)
  have kf106 : at_Ticker h97 (b + 105) .null .null (fun _ => 0) (fun _ _ => 0) := fr_Ticker f103 kf87 (by intro i hi hs; simp only [in_Ticker] at hi hs <;> omega)
  have kf107 : at_Row h97 ((b + 105) + 1) .null .null .null (fun _ => 0) (fun _ _ => 0) := fr_Row f103 kf88 (by intro i hi hs; simp only [in_Row] at hi hs <;> omega)
  have fr108 : ab_fr (in_up b) h h97 := ab_fr_set fr96 e98 (by first | (show _ ∧ _; omega) | (show _ ∨ _; omega) | (show _ = _; omega) | (show _ ≤ _; omega))
  clear c91 c92 c93 kf94 kf95 kf87 kf88 l89 fr96 e98 f103
  try clear h85
  refine ab_aload_n d_Play_init_76 rfl rfl rfl ?_
  refine ab_sipush (v := 256) d_Play_init_77 (by decide) ?_
  refine ab_newaL (N := 256) l102 d_Play_init_80 rfl (k1 144 rfl rfl) tZ (Or.inr (Or.inr (Or.inl rfl))) (by decide) (by decide) (by decide) (by decide) (by decide) (fun h109 e110 e111 e112 => ?_)
  have c113 : h109[b + 114]? = some (.inl (.boolean, 256, .inl (fun _ => 0))) := e111
  have c114 : h109[b]? = some (.inr (10, [.ref (b + 1), .int 0, .int 1, .int 0, .ref (b + 104), .int 0, .ref (b + 7), .ref (b + 105), .null, .null, .null, .null, .null, .null])) := (e112 _ (by omega)).trans c99
  have c115 : h109[b+7]? = some (.inl (.object "WorldEngine$World", 16, .inr (.inr (.inr (.inr (fun j => if j < 16 then some (b + 8 + 6 * j) else none)))))) := (e112 _ (by omega)).trans c100
  have c116 : h109[b+104]? = some (.inl (.int, 256, .inl (fun _ => 0))) := (e112 _ (by omega)).trans c101
  have f117 : ab_fr (fun i => False) h97 h109 := ab_fr_new (ab_fr_rf _ _) e112 e110 l102
  have kf118 : at_World h109 (b + 1) (fun _ => 0) a0_World := fr_World f117 kf104 (by intro i hi hs; simp only [in_World] at hi hs <;> omega)
  have kf119 : ∀ j, j < 16 → at_World h109 (b + 8 + 6 * j) (fun _ => 0) a0_World := fr_Behind f117 kf105 (by intro i hi hs; simp only [in_Behind] at hi hs <;> omega)
  have kf120 : at_Ticker h109 (b + 105) .null .null (fun _ => 0) (fun _ _ => 0) := fr_Ticker f117 kf106 (by intro i hi hs; simp only [in_Ticker] at hi hs <;> omega)
  have kf121 : at_Row h109 ((b + 105) + 1) .null .null .null (fun _ => 0) (fun _ _ => 0) := fr_Row f117 kf107 (by intro i hi hs; simp only [in_Row] at hi hs <;> omega)
  have fr122 : ab_fr (in_up b) h h109 := ab_fr_new fr108 e112 e110 l102
  have l123 : h109.length = b + 115 := e110
  clear c99 c100 c101 kf104 kf105 kf106 kf107 e110 e111 e112 f117 l102 fr108
  try clear h97
  refine ab_putF (f := 8) d_Play_init_82 c114 rfl (by decide) (k2 144 rfl rfl) rfl rfl rfl rfl (fun _ => rfl) (fun _ => rfl) (Nat.le_of_ble_eq_true rfl) ?_
  show ab_V _ _ _ _ _ _ _ 85 [some (.ref b), none] [] (h109.set b (.inr (10, [.ref (b + 1), .int 0, .int 1, .int 0, .ref (b + 104), .int 0, .ref (b + 7), .ref (b + 105), .ref (b + 114), .null, .null, .null, .null, .null])))
  refine ab_gen (fun h124 e125 => ?_)
  have c126 : h124[b]? = some (.inr (10, [.ref (b + 1), .int 0, .int 1, .int 0, .ref (b + 104), .int 0, .ref (b + 7), .ref (b + 105), .ref (b + 114), .null, .null, .null, .null, .null])) := ab_self e125 c114
  have c127 : h124[b+7]? = some (.inl (.object "WorldEngine$World", 16, .inr (.inr (.inr (.inr (fun j => if j < 16 then some (b + 8 + 6 * j) else none)))))) := ab_other e125 (by omega) c115
  have c128 : h124[b+104]? = some (.inl (.int, 256, .inl (fun _ => 0))) := ab_other e125 (by omega) c116
  have c129 : h124[b+114]? = some (.inl (.boolean, 256, .inl (fun _ => 0))) := ab_other e125 (by omega) c113
  have l130 : h124.length = b + 115 := by rw [e125]; exact List.length_set.trans l123
  have f131 : ab_fr (fun i => i = b) h109 h124 := ab_fr_set (ab_fr_rf _ _) e125 rfl
  have kf132 : at_World h124 (b + 1) (fun _ => 0) a0_World := fr_World f131 kf118 (by intro i hi hs; simp only [in_World] at hi hs <;> omega)
  have kf133 : ∀ j, j < 16 → at_World h124 (b + 8 + 6 * j) (fun _ => 0) a0_World := fr_Behind f131 kf119 (by intro i hi hs; simp only [in_Behind] at hi hs <;> omega)
  have kf134 : at_Ticker h124 (b + 105) .null .null (fun _ => 0) (fun _ _ => 0) := fr_Ticker f131 kf120 (by intro i hi hs; simp only [in_Ticker] at hi hs <;> omega)
  have kf135 : at_Row h124 ((b + 105) + 1) .null .null .null (fun _ => 0) (fun _ _ => 0) := fr_Row f131 kf121 (by intro i hi hs; simp only [in_Row] at hi hs <;> omega)
  have fr136 : ab_fr (in_up b) h h124 := ab_fr_set fr122 e125 (by first | (show _ ∧ _; omega) | (show _ ∨ _; omega) | (show _ = _; omega) | (show _ ≤ _; omega))
  clear c114 c115 c116 c113 kf118 kf119 kf120 kf121 l123 fr122 e125 f131
  try clear h109
  refine ab_aload_n d_Play_init_85 rfl rfl rfl ?_
  refine ab_sipush (v := 256) d_Play_init_86 (by decide) ?_
  refine ab_newaL (N := 256) l130 d_Play_init_89 rfl (k1 143 rfl rfl) tI (Or.inl rfl) (by decide) (by decide) (by decide) (by decide) (by decide) (fun h137 e138 e139 e140 => ?_)
  have c141 : h137[b + 115]? = some (.inl (.int, 256, .inl (fun _ => 0))) := e139
  have c142 : h137[b]? = some (.inr (10, [.ref (b + 1), .int 0, .int 1, .int 0, .ref (b + 104), .int 0, .ref (b + 7), .ref (b + 105), .ref (b + 114), .null, .null, .null, .null, .null])) := (e140 _ (by omega)).trans c126
  have c143 : h137[b+7]? = some (.inl (.object "WorldEngine$World", 16, .inr (.inr (.inr (.inr (fun j => if j < 16 then some (b + 8 + 6 * j) else none)))))) := (e140 _ (by omega)).trans c127
  have c144 : h137[b+104]? = some (.inl (.int, 256, .inl (fun _ => 0))) := (e140 _ (by omega)).trans c128
  have c145 : h137[b+114]? = some (.inl (.boolean, 256, .inl (fun _ => 0))) := (e140 _ (by omega)).trans c129
  have f146 : ab_fr (fun i => False) h124 h137 := ab_fr_new (ab_fr_rf _ _) e140 e138 l130
  have kf147 : at_World h137 (b + 1) (fun _ => 0) a0_World := fr_World f146 kf132 (by intro i hi hs; simp only [in_World] at hi hs <;> omega)
  have kf148 : ∀ j, j < 16 → at_World h137 (b + 8 + 6 * j) (fun _ => 0) a0_World := fr_Behind f146 kf133 (by intro i hi hs; simp only [in_Behind] at hi hs <;> omega)
  have kf149 : at_Ticker h137 (b + 105) .null .null (fun _ => 0) (fun _ _ => 0) := fr_Ticker f146 kf134 (by intro i hi hs; simp only [in_Ticker] at hi hs <;> omega)
  have kf150 : at_Row h137 ((b + 105) + 1) .null .null .null (fun _ => 0) (fun _ _ => 0) := fr_Row f146 kf135 (by intro i hi hs; simp only [in_Row] at hi hs <;> omega)
  have fr151 : ab_fr (in_up b) h h137 := ab_fr_new fr136 e140 e138 l130
  have l152 : h137.length = b + 116 := e138
  clear c126 c127 c128 c129 kf132 kf133 kf134 kf135 e138 e139 e140 f146 l130 fr136
  try clear h124
  refine ab_putF (f := 9) d_Play_init_91 c142 rfl (by decide) (k2 145 rfl rfl) rfl rfl rfl rfl (fun _ => rfl) (fun _ => rfl) (Nat.le_of_ble_eq_true rfl) ?_
  show ab_V _ _ _ _ _ _ _ 94 [some (.ref b), none] [] (h137.set b (.inr (10, [.ref (b + 1), .int 0, .int 1, .int 0, .ref (b + 104), .int 0, .ref (b + 7), .ref (b + 105), .ref (b + 114), .ref (b + 115), .null, .null, .null, .null])))
  refine ab_gen (fun h153 e154 => ?_)
  have c155 : h153[b]? = some (.inr (10, [.ref (b + 1), .int 0, .int 1, .int 0, .ref (b + 104), .int 0, .ref (b + 7), .ref (b + 105), .ref (b + 114), .ref (b + 115), .null, .null, .null, .null])) := ab_self e154 c142
  have c156 : h153[b+7]? = some (.inl (.object "WorldEngine$World", 16, .inr (.inr (.inr (.inr (fun j => if j < 16 then some (b + 8 + 6 * j) else none)))))) := ab_other e154 (by omega) c143
  have c157 : h153[b+104]? = some (.inl (.int, 256, .inl (fun _ => 0))) := ab_other e154 (by omega) c144
  have c158 : h153[b+114]? = some (.inl (.boolean, 256, .inl (fun _ => 0))) := ab_other e154 (by omega) c145
  have c159 : h153[b+115]? = some (.inl (.int, 256, .inl (fun _ => 0))) := ab_other e154 (by omega) c141
  have l160 : h153.length = b + 116 := by rw [e154]; exact List.length_set.trans l152
  have f161 : ab_fr (fun i => i = b) h137 h153 := ab_fr_set (ab_fr_rf _ _) e154 rfl
  have kf162 : at_World h153 (b + 1) (fun _ => 0) a0_World := fr_World f161 kf147 (by intro i hi hs; simp only [in_World] at hi hs <;> omega)
  have kf163 : ∀ j, j < 16 → at_World h153 (b + 8 + 6 * j) (fun _ => 0) a0_World := fr_Behind f161 kf148 (by intro i hi hs; simp only [in_Behind] at hi hs <;> omega)
  have kf164 : at_Ticker h153 (b + 105) .null .null (fun _ => 0) (fun _ _ => 0) := fr_Ticker f161 kf149 (by intro i hi hs; simp only [in_Ticker] at hi hs <;> omega)
  have kf165 : at_Row h153 ((b + 105) + 1) .null .null .null (fun _ => 0) (fun _ _ => 0) := fr_Row f161 kf150 (by intro i hi hs; simp only [in_Row] at hi hs <;> omega)
  have fr166 : ab_fr (in_up b) h h153 := ab_fr_set fr151 e154 (by first | (show _ ∧ _; omega) | (show _ ∨ _; omega) | (show _ = _; omega) | (show _ ≤ _; omega))
  clear c142 c143 c144 c145 c141 kf147 kf148 kf149 kf150 l152 fr151 e154 f161
  try clear h137
  refine ab_aload_n d_Play_init_94 rfl rfl rfl ?_
  refine ab_iconst (v := 4) d_Play_init_95 (by decide) ?_
  refine ab_newaL (N := 4) l160 d_Play_init_96 rfl (k1 143 rfl rfl) tI (Or.inl rfl) (by decide) (by decide) (by decide) (by decide) (by decide) (fun h167 e168 e169 e170 => ?_)
  have c171 : h167[b + 116]? = some (.inl (.int, 4, .inl (fun _ => 0))) := e169
  have c172 : h167[b]? = some (.inr (10, [.ref (b + 1), .int 0, .int 1, .int 0, .ref (b + 104), .int 0, .ref (b + 7), .ref (b + 105), .ref (b + 114), .ref (b + 115), .null, .null, .null, .null])) := (e170 _ (by omega)).trans c155
  have c173 : h167[b+7]? = some (.inl (.object "WorldEngine$World", 16, .inr (.inr (.inr (.inr (fun j => if j < 16 then some (b + 8 + 6 * j) else none)))))) := (e170 _ (by omega)).trans c156
  have c174 : h167[b+104]? = some (.inl (.int, 256, .inl (fun _ => 0))) := (e170 _ (by omega)).trans c157
  have c175 : h167[b+114]? = some (.inl (.boolean, 256, .inl (fun _ => 0))) := (e170 _ (by omega)).trans c158
  have c176 : h167[b+115]? = some (.inl (.int, 256, .inl (fun _ => 0))) := (e170 _ (by omega)).trans c159
  have f177 : ab_fr (fun i => False) h153 h167 := ab_fr_new (ab_fr_rf _ _) e170 e168 l160
  have kf178 : at_World h167 (b + 1) (fun _ => 0) a0_World := fr_World f177 kf162 (by intro i hi hs; simp only [in_World] at hi hs <;> omega)
  have kf179 : ∀ j, j < 16 → at_World h167 (b + 8 + 6 * j) (fun _ => 0) a0_World := fr_Behind f177 kf163 (by intro i hi hs; simp only [in_Behind] at hi hs <;> omega)
  have kf180 : at_Ticker h167 (b + 105) .null .null (fun _ => 0) (fun _ _ => 0) := fr_Ticker f177 kf164 (by intro i hi hs; simp only [in_Ticker] at hi hs <;> omega)
  have kf181 : at_Row h167 ((b + 105) + 1) .null .null .null (fun _ => 0) (fun _ _ => 0) := fr_Row f177 kf165 (by intro i hi hs; simp only [in_Row] at hi hs <;> omega)
  have fr182 : ab_fr (in_up b) h h167 := ab_fr_new fr166 e170 e168 l160
  have l183 : h167.length = b + 117 := e168
  clear c155 c156 c157 c158 c159 kf162 kf163 kf164 kf165 e168 e169 e170 f177 l160 fr166
  try clear h153
  refine ab_putF (f := 10) d_Play_init_98 c172 rfl (by decide) (k2 146 rfl rfl) rfl rfl rfl rfl (fun _ => rfl) (fun _ => rfl) (Nat.le_of_ble_eq_true rfl) ?_
  show ab_V _ _ _ _ _ _ _ 101 [some (.ref b), none] [] (h167.set b (.inr (10, [.ref (b + 1), .int 0, .int 1, .int 0, .ref (b + 104), .int 0, .ref (b + 7), .ref (b + 105), .ref (b + 114), .ref (b + 115), .ref (b + 116), .null, .null, .null])))
  refine ab_gen (fun h184 e185 => ?_)
  have c186 : h184[b]? = some (.inr (10, [.ref (b + 1), .int 0, .int 1, .int 0, .ref (b + 104), .int 0, .ref (b + 7), .ref (b + 105), .ref (b + 114), .ref (b + 115), .ref (b + 116), .null, .null, .null])) := ab_self e185 c172
  have c187 : h184[b+7]? = some (.inl (.object "WorldEngine$World", 16, .inr (.inr (.inr (.inr (fun j => if j < 16 then some (b + 8 + 6 * j) else none)))))) := ab_other e185 (by omega) c173
  have c188 : h184[b+104]? = some (.inl (.int, 256, .inl (fun _ => 0))) := ab_other e185 (by omega) c174
  have c189 : h184[b+114]? = some (.inl (.boolean, 256, .inl (fun _ => 0))) := ab_other e185 (by omega) c175
  have c190 : h184[b+115]? = some (.inl (.int, 256, .inl (fun _ => 0))) := ab_other e185 (by omega) c176
  have c191 : h184[b+116]? = some (.inl (.int, 4, .inl (fun _ => 0))) := ab_other e185 (by omega) c171
  have l192 : h184.length = b + 117 := by rw [e185]; exact List.length_set.trans l183
  have f193 : ab_fr (fun i => i = b) h167 h184 := ab_fr_set (ab_fr_rf _ _) e185 rfl
  have kf194 : at_World h184 (b + 1) (fun _ => 0) a0_World := fr_World f193 kf178 (by intro i hi hs; simp only [in_World] at hi hs <;> omega)
  have kf195 : ∀ j, j < 16 → at_World h184 (b + 8 + 6 * j) (fun _ => 0) a0_World := fr_Behind f193 kf179 (by intro i hi hs; simp only [in_Behind] at hi hs <;> omega)
  have kf196 : at_Ticker h184 (b + 105) .null .null (fun _ => 0) (fun _ _ => 0) := fr_Ticker f193 kf180 (by intro i hi hs; simp only [in_Ticker] at hi hs <;> omega)
  have kf197 : at_Row h184 ((b + 105) + 1) .null .null .null (fun _ => 0) (fun _ _ => 0) := fr_Row f193 kf181 (by intro i hi hs; simp only [in_Row] at hi hs <;> omega)
  have fr198 : ab_fr (in_up b) h h184 := ab_fr_set fr182 e185 (by first | (show _ ∧ _; omega) | (show _ ∨ _; omega) | (show _ = _; omega) | (show _ ≤ _; omega))
  clear c172 c173 c174 c175 c176 c171 kf178 kf179 kf180 kf181 l183 fr182 e185 f193
  try clear h167
  refine ab_aload_n d_Play_init_101 rfl rfl rfl ?_
  refine ab_bipush (v := 16) d_Play_init_102 (by decide) ?_
  refine ab_newaL (N := 16) l192 d_Play_init_104 rfl (k1 143 rfl rfl) tI (Or.inl rfl) (by decide) (by decide) (by decide) (by decide) (by decide) (fun h199 e200 e201 e202 => ?_)
  have c203 : h199[b + 117]? = some (.inl (.int, 16, .inl (fun _ => 0))) := e201
  have c204 : h199[b]? = some (.inr (10, [.ref (b + 1), .int 0, .int 1, .int 0, .ref (b + 104), .int 0, .ref (b + 7), .ref (b + 105), .ref (b + 114), .ref (b + 115), .ref (b + 116), .null, .null, .null])) := (e202 _ (by omega)).trans c186
  have c205 : h199[b+7]? = some (.inl (.object "WorldEngine$World", 16, .inr (.inr (.inr (.inr (fun j => if j < 16 then some (b + 8 + 6 * j) else none)))))) := (e202 _ (by omega)).trans c187
  have c206 : h199[b+104]? = some (.inl (.int, 256, .inl (fun _ => 0))) := (e202 _ (by omega)).trans c188
  have c207 : h199[b+114]? = some (.inl (.boolean, 256, .inl (fun _ => 0))) := (e202 _ (by omega)).trans c189
  have c208 : h199[b+115]? = some (.inl (.int, 256, .inl (fun _ => 0))) := (e202 _ (by omega)).trans c190
  have c209 : h199[b+116]? = some (.inl (.int, 4, .inl (fun _ => 0))) := (e202 _ (by omega)).trans c191
  have f210 : ab_fr (fun i => False) h184 h199 := ab_fr_new (ab_fr_rf _ _) e202 e200 l192
  have kf211 : at_World h199 (b + 1) (fun _ => 0) a0_World := fr_World f210 kf194 (by intro i hi hs; simp only [in_World] at hi hs <;> omega)
  have kf212 : ∀ j, j < 16 → at_World h199 (b + 8 + 6 * j) (fun _ => 0) a0_World := fr_Behind f210 kf195 (by intro i hi hs; simp only [in_Behind] at hi hs <;> omega)
  have kf213 : at_Ticker h199 (b + 105) .null .null (fun _ => 0) (fun _ _ => 0) := fr_Ticker f210 kf196 (by intro i hi hs; simp only [in_Ticker] at hi hs <;> omega)
  have kf214 : at_Row h199 ((b + 105) + 1) .null .null .null (fun _ => 0) (fun _ _ => 0) := fr_Row f210 kf197 (by intro i hi hs; simp only [in_Row] at hi hs <;> omega)
  have fr215 : ab_fr (in_up b) h h199 := ab_fr_new fr198 e202 e200 l192
  have l216 : h199.length = b + 118 := e200
  clear c186 c187 c188 c189 c190 c191 kf194 kf195 kf196 kf197 e200 e201 e202 f210 l192 fr198
  try clear h184
  refine ab_putF (f := 11) d_Play_init_106 c204 rfl (by decide) (k2 147 rfl rfl) rfl rfl rfl rfl (fun _ => rfl) (fun _ => rfl) (Nat.le_of_ble_eq_true rfl) ?_
  show ab_V _ _ _ _ _ _ _ 109 [some (.ref b), none] [] (h199.set b (.inr (10, [.ref (b + 1), .int 0, .int 1, .int 0, .ref (b + 104), .int 0, .ref (b + 7), .ref (b + 105), .ref (b + 114), .ref (b + 115), .ref (b + 116), .ref (b + 117), .null, .null])))
  refine ab_gen (fun h217 e218 => ?_)
  have c219 : h217[b]? = some (.inr (10, [.ref (b + 1), .int 0, .int 1, .int 0, .ref (b + 104), .int 0, .ref (b + 7), .ref (b + 105), .ref (b + 114), .ref (b + 115), .ref (b + 116), .ref (b + 117), .null, .null])) := ab_self e218 c204
  have c220 : h217[b+7]? = some (.inl (.object "WorldEngine$World", 16, .inr (.inr (.inr (.inr (fun j => if j < 16 then some (b + 8 + 6 * j) else none)))))) := ab_other e218 (by omega) c205
  have c221 : h217[b+104]? = some (.inl (.int, 256, .inl (fun _ => 0))) := ab_other e218 (by omega) c206
  have c222 : h217[b+114]? = some (.inl (.boolean, 256, .inl (fun _ => 0))) := ab_other e218 (by omega) c207
  have c223 : h217[b+115]? = some (.inl (.int, 256, .inl (fun _ => 0))) := ab_other e218 (by omega) c208
  have c224 : h217[b+116]? = some (.inl (.int, 4, .inl (fun _ => 0))) := ab_other e218 (by omega) c209
  have c225 : h217[b+117]? = some (.inl (.int, 16, .inl (fun _ => 0))) := ab_other e218 (by omega) c203
  have l226 : h217.length = b + 118 := by rw [e218]; exact List.length_set.trans l216
  have f227 : ab_fr (fun i => i = b) h199 h217 := ab_fr_set (ab_fr_rf _ _) e218 rfl
  have kf228 : at_World h217 (b + 1) (fun _ => 0) a0_World := fr_World f227 kf211 (by intro i hi hs; simp only [in_World] at hi hs <;> omega)
  have kf229 : ∀ j, j < 16 → at_World h217 (b + 8 + 6 * j) (fun _ => 0) a0_World := fr_Behind f227 kf212 (by intro i hi hs; simp only [in_Behind] at hi hs <;> omega)
  have kf230 : at_Ticker h217 (b + 105) .null .null (fun _ => 0) (fun _ _ => 0) := fr_Ticker f227 kf213 (by intro i hi hs; simp only [in_Ticker] at hi hs <;> omega)
  have kf231 : at_Row h217 ((b + 105) + 1) .null .null .null (fun _ => 0) (fun _ _ => 0) := fr_Row f227 kf214 (by intro i hi hs; simp only [in_Row] at hi hs <;> omega)
  have fr232 : ab_fr (in_up b) h h217 := ab_fr_set fr215 e218 (by first | (show _ ∧ _; omega) | (show _ ∨ _; omega) | (show _ = _; omega) | (show _ ≤ _; omega))
  clear c204 c205 c206 c207 c208 c209 c203 kf211 kf212 kf213 kf214 l216 fr215 e218 f227
  try clear h199
  refine ab_aload_n d_Play_init_109 rfl rfl rfl ?_
  refine ab_bipush (v := 64) d_Play_init_110 (by decide) ?_
  refine ab_newaL (N := 64) l226 d_Play_init_112 rfl (k1 143 rfl rfl) tI (Or.inl rfl) (by decide) (by decide) (by decide) (by decide) (by decide) (fun h233 e234 e235 e236 => ?_)
  have c237 : h233[b + 118]? = some (.inl (.int, 64, .inl (fun _ => 0))) := e235
  have c238 : h233[b]? = some (.inr (10, [.ref (b + 1), .int 0, .int 1, .int 0, .ref (b + 104), .int 0, .ref (b + 7), .ref (b + 105), .ref (b + 114), .ref (b + 115), .ref (b + 116), .ref (b + 117), .null, .null])) := (e236 _ (by omega)).trans c219
  have c239 : h233[b+7]? = some (.inl (.object "WorldEngine$World", 16, .inr (.inr (.inr (.inr (fun j => if j < 16 then some (b + 8 + 6 * j) else none)))))) := (e236 _ (by omega)).trans c220
  have c240 : h233[b+104]? = some (.inl (.int, 256, .inl (fun _ => 0))) := (e236 _ (by omega)).trans c221
  have c241 : h233[b+114]? = some (.inl (.boolean, 256, .inl (fun _ => 0))) := (e236 _ (by omega)).trans c222
  have c242 : h233[b+115]? = some (.inl (.int, 256, .inl (fun _ => 0))) := (e236 _ (by omega)).trans c223
  have c243 : h233[b+116]? = some (.inl (.int, 4, .inl (fun _ => 0))) := (e236 _ (by omega)).trans c224
  have c244 : h233[b+117]? = some (.inl (.int, 16, .inl (fun _ => 0))) := (e236 _ (by omega)).trans c225
  have f245 : ab_fr (fun i => False) h217 h233 := ab_fr_new (ab_fr_rf _ _) e236 e234 l226
  have kf246 : at_World h233 (b + 1) (fun _ => 0) a0_World := fr_World f245 kf228 (by intro i hi hs; simp only [in_World] at hi hs <;> omega)
  have kf247 : ∀ j, j < 16 → at_World h233 (b + 8 + 6 * j) (fun _ => 0) a0_World := fr_Behind f245 kf229 (by intro i hi hs; simp only [in_Behind] at hi hs <;> omega)
  have kf248 : at_Ticker h233 (b + 105) .null .null (fun _ => 0) (fun _ _ => 0) := fr_Ticker f245 kf230 (by intro i hi hs; simp only [in_Ticker] at hi hs <;> omega)
  have kf249 : at_Row h233 ((b + 105) + 1) .null .null .null (fun _ => 0) (fun _ _ => 0) := fr_Row f245 kf231 (by intro i hi hs; simp only [in_Row] at hi hs <;> omega)
  have fr250 : ab_fr (in_up b) h h233 := ab_fr_new fr232 e236 e234 l226
  have l251 : h233.length = b + 119 := e234
  clear c219 c220 c221 c222 c223 c224 c225 kf228 kf229 kf230 kf231 e234 e235 e236 f245 l226 fr232
  try clear h217
  refine ab_putF (f := 12) d_Play_init_114 c238 rfl (by decide) (k2 148 rfl rfl) rfl rfl rfl rfl (fun _ => rfl) (fun _ => rfl) (Nat.le_of_ble_eq_true rfl) ?_
  show ab_V _ _ _ _ _ _ _ 117 [some (.ref b), none] [] (h233.set b (.inr (10, [.ref (b + 1), .int 0, .int 1, .int 0, .ref (b + 104), .int 0, .ref (b + 7), .ref (b + 105), .ref (b + 114), .ref (b + 115), .ref (b + 116), .ref (b + 117), .ref (b + 118), .null])))
  refine ab_gen (fun h252 e253 => ?_)
  have c254 : h252[b]? = some (.inr (10, [.ref (b + 1), .int 0, .int 1, .int 0, .ref (b + 104), .int 0, .ref (b + 7), .ref (b + 105), .ref (b + 114), .ref (b + 115), .ref (b + 116), .ref (b + 117), .ref (b + 118), .null])) := ab_self e253 c238
  have c255 : h252[b+7]? = some (.inl (.object "WorldEngine$World", 16, .inr (.inr (.inr (.inr (fun j => if j < 16 then some (b + 8 + 6 * j) else none)))))) := ab_other e253 (by omega) c239
  have c256 : h252[b+104]? = some (.inl (.int, 256, .inl (fun _ => 0))) := ab_other e253 (by omega) c240
  have c257 : h252[b+114]? = some (.inl (.boolean, 256, .inl (fun _ => 0))) := ab_other e253 (by omega) c241
  have c258 : h252[b+115]? = some (.inl (.int, 256, .inl (fun _ => 0))) := ab_other e253 (by omega) c242
  have c259 : h252[b+116]? = some (.inl (.int, 4, .inl (fun _ => 0))) := ab_other e253 (by omega) c243
  have c260 : h252[b+117]? = some (.inl (.int, 16, .inl (fun _ => 0))) := ab_other e253 (by omega) c244
  have c261 : h252[b+118]? = some (.inl (.int, 64, .inl (fun _ => 0))) := ab_other e253 (by omega) c237
  have l262 : h252.length = b + 119 := by rw [e253]; exact List.length_set.trans l251
  have f263 : ab_fr (fun i => i = b) h233 h252 := ab_fr_set (ab_fr_rf _ _) e253 rfl
  have kf264 : at_World h252 (b + 1) (fun _ => 0) a0_World := fr_World f263 kf246 (by intro i hi hs; simp only [in_World] at hi hs <;> omega)
  have kf265 : ∀ j, j < 16 → at_World h252 (b + 8 + 6 * j) (fun _ => 0) a0_World := fr_Behind f263 kf247 (by intro i hi hs; simp only [in_Behind] at hi hs <;> omega)
  have kf266 : at_Ticker h252 (b + 105) .null .null (fun _ => 0) (fun _ _ => 0) := fr_Ticker f263 kf248 (by intro i hi hs; simp only [in_Ticker] at hi hs <;> omega)
  have kf267 : at_Row h252 ((b + 105) + 1) .null .null .null (fun _ => 0) (fun _ _ => 0) := fr_Row f263 kf249 (by intro i hi hs; simp only [in_Row] at hi hs <;> omega)
  have fr268 : ab_fr (in_up b) h h252 := ab_fr_set fr250 e253 (by first | (show _ ∧ _; omega) | (show _ ∨ _; omega) | (show _ = _; omega) | (show _ ≤ _; omega))
  clear c238 c239 c240 c241 c242 c243 c244 c237 kf246 kf247 kf248 kf249 l251 fr250 e253 f263
  try clear h233
  refine ab_aload_n d_Play_init_117 rfl rfl rfl ?_
  refine ab_iconst (v := 4) d_Play_init_118 (by decide) ?_
  refine ab_newaL (N := 4) l262 d_Play_init_119 rfl (k1 143 rfl rfl) tI (Or.inl rfl) (by decide) (by decide) (by decide) (by decide) (by decide) (fun h269 e270 e271 e272 => ?_)
  have c273 : h269[b + 119]? = some (.inl (.int, 4, .inl (fun _ => 0))) := e271
  have c274 : h269[b]? = some (.inr (10, [.ref (b + 1), .int 0, .int 1, .int 0, .ref (b + 104), .int 0, .ref (b + 7), .ref (b + 105), .ref (b + 114), .ref (b + 115), .ref (b + 116), .ref (b + 117), .ref (b + 118), .null])) := (e272 _ (by omega)).trans c254
  have c275 : h269[b+7]? = some (.inl (.object "WorldEngine$World", 16, .inr (.inr (.inr (.inr (fun j => if j < 16 then some (b + 8 + 6 * j) else none)))))) := (e272 _ (by omega)).trans c255
  have c276 : h269[b+104]? = some (.inl (.int, 256, .inl (fun _ => 0))) := (e272 _ (by omega)).trans c256
  have c277 : h269[b+114]? = some (.inl (.boolean, 256, .inl (fun _ => 0))) := (e272 _ (by omega)).trans c257
  have c278 : h269[b+115]? = some (.inl (.int, 256, .inl (fun _ => 0))) := (e272 _ (by omega)).trans c258
  have c279 : h269[b+116]? = some (.inl (.int, 4, .inl (fun _ => 0))) := (e272 _ (by omega)).trans c259
  have c280 : h269[b+117]? = some (.inl (.int, 16, .inl (fun _ => 0))) := (e272 _ (by omega)).trans c260
  have c281 : h269[b+118]? = some (.inl (.int, 64, .inl (fun _ => 0))) := (e272 _ (by omega)).trans c261
  have f282 : ab_fr (fun i => False) h252 h269 := ab_fr_new (ab_fr_rf _ _) e272 e270 l262
  have kf283 : at_World h269 (b + 1) (fun _ => 0) a0_World := fr_World f282 kf264 (by intro i hi hs; simp only [in_World] at hi hs <;> omega)
  have kf284 : ∀ j, j < 16 → at_World h269 (b + 8 + 6 * j) (fun _ => 0) a0_World := fr_Behind f282 kf265 (by intro i hi hs; simp only [in_Behind] at hi hs <;> omega)
  have kf285 : at_Ticker h269 (b + 105) .null .null (fun _ => 0) (fun _ _ => 0) := fr_Ticker f282 kf266 (by intro i hi hs; simp only [in_Ticker] at hi hs <;> omega)
  have kf286 : at_Row h269 ((b + 105) + 1) .null .null .null (fun _ => 0) (fun _ _ => 0) := fr_Row f282 kf267 (by intro i hi hs; simp only [in_Row] at hi hs <;> omega)
  have fr287 : ab_fr (in_up b) h h269 := ab_fr_new fr268 e272 e270 l262
  have l288 : h269.length = b + 120 := e270
  clear c254 c255 c256 c257 c258 c259 c260 c261 kf264 kf265 kf266 kf267 e270 e271 e272 f282 l262 fr268
  try clear h252
  refine ab_putF (f := 13) d_Play_init_121 c274 rfl (by decide) (k2 149 rfl rfl) rfl rfl rfl rfl (fun _ => rfl) (fun _ => rfl) (Nat.le_of_ble_eq_true rfl) ?_
  show ab_V _ _ _ _ _ _ _ 124 [some (.ref b), none] [] (h269.set b (.inr (10, [.ref (b + 1), .int 0, .int 1, .int 0, .ref (b + 104), .int 0, .ref (b + 7), .ref (b + 105), .ref (b + 114), .ref (b + 115), .ref (b + 116), .ref (b + 117), .ref (b + 118), .ref (b + 119)])))
  refine ab_gen (fun h289 e290 => ?_)
  have c291 : h289[b]? = some (.inr (10, [.ref (b + 1), .int 0, .int 1, .int 0, .ref (b + 104), .int 0, .ref (b + 7), .ref (b + 105), .ref (b + 114), .ref (b + 115), .ref (b + 116), .ref (b + 117), .ref (b + 118), .ref (b + 119)])) := ab_self e290 c274
  have c292 : h289[b+7]? = some (.inl (.object "WorldEngine$World", 16, .inr (.inr (.inr (.inr (fun j => if j < 16 then some (b + 8 + 6 * j) else none)))))) := ab_other e290 (by omega) c275
  have c293 : h289[b+104]? = some (.inl (.int, 256, .inl (fun _ => 0))) := ab_other e290 (by omega) c276
  have c294 : h289[b+114]? = some (.inl (.boolean, 256, .inl (fun _ => 0))) := ab_other e290 (by omega) c277
  have c295 : h289[b+115]? = some (.inl (.int, 256, .inl (fun _ => 0))) := ab_other e290 (by omega) c278
  have c296 : h289[b+116]? = some (.inl (.int, 4, .inl (fun _ => 0))) := ab_other e290 (by omega) c279
  have c297 : h289[b+117]? = some (.inl (.int, 16, .inl (fun _ => 0))) := ab_other e290 (by omega) c280
  have c298 : h289[b+118]? = some (.inl (.int, 64, .inl (fun _ => 0))) := ab_other e290 (by omega) c281
  have c299 : h289[b+119]? = some (.inl (.int, 4, .inl (fun _ => 0))) := ab_other e290 (by omega) c273
  have l300 : h289.length = b + 120 := by rw [e290]; exact List.length_set.trans l288
  have f301 : ab_fr (fun i => i = b) h269 h289 := ab_fr_set (ab_fr_rf _ _) e290 rfl
  have kf302 : at_World h289 (b + 1) (fun _ => 0) a0_World := fr_World f301 kf283 (by intro i hi hs; simp only [in_World] at hi hs <;> omega)
  have kf303 : ∀ j, j < 16 → at_World h289 (b + 8 + 6 * j) (fun _ => 0) a0_World := fr_Behind f301 kf284 (by intro i hi hs; simp only [in_Behind] at hi hs <;> omega)
  have kf304 : at_Ticker h289 (b + 105) .null .null (fun _ => 0) (fun _ _ => 0) := fr_Ticker f301 kf285 (by intro i hi hs; simp only [in_Ticker] at hi hs <;> omega)
  have kf305 : at_Row h289 ((b + 105) + 1) .null .null .null (fun _ => 0) (fun _ _ => 0) := fr_Row f301 kf286 (by intro i hi hs; simp only [in_Row] at hi hs <;> omega)
  have fr306 : ab_fr (in_up b) h h289 := ab_fr_set fr287 e290 (by first | (show _ ∧ _; omega) | (show _ ∨ _; omega) | (show _ = _; omega) | (show _ ≤ _; omega))
  clear c274 c275 c276 c277 c278 c279 c280 c281 c273 kf283 kf284 kf285 kf286 l288 fr287 e290 f301
  try clear h269
  exact ab_vret d_Play_init_124 rfl (by decide) (by decide) (by exact ⟨rfl, ⟨⟨c291, c293, c294, c295, c296, c297, c298, c299⟩, kf302, c292, kf303, kf304, kf305⟩, l300, fr306⟩)
