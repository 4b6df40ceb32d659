set_option maxRecDepth 20000 in
set_option maxHeartbeats 2000000 in
theorem c_Named_init {h : List ab_E}  {b : Nat}  (ho : h[b]? = some (.inr (2, [.null, .int 0, .int 0, .int 0]))) : ab_M y_Named_init { frames := 1, cells := 0, slots := 0, locals := 12 } [.ref b] h (ab_A none (fun h1 => h1 = h.set b (.inr (2, [.float 1, .int 0, .int 0, .int 0])))) := by
  refine ab_of2 (lv := [some (.ref b)]) 0 rfl rfl (Nat.le_of_ble_eq_true rfl) ?_
  refine ab_aload_n d_Named_init_0 rfl rfl rfl ?_
  refine ab_objInit d_Named_init_1 (k2 226 rfl rfl) (k1 37 rfl rfl) (k1 38 rfl rfl) (by decide) (by decide) ?_
  refine ab_aload_n d_Named_init_4 rfl rfl rfl ?_
  refine ab_ldcS (k0 := 1) d_Named_init_5 (List.mem_of_getElem? (i := 1) rfl) rfl rfl rfl ?_
  refine ab_put (f := 0) d_Named_init_7 ho rfl (by decide) (k2 228 rfl rfl) rfl rfl (fun _ => rfl) (fun _ => rfl) (Nat.le_of_ble_eq_true rfl) ?_
  show ab_V _ _ _ _ _ _ _ 10 [some (.ref b)] [] (h.set b (.inr (2, [.float 1, .int 0, .int 0, .int 0])))
  refine ab_gen (fun h1 e2 => ?_)
  have c3 : h1[b]? = some (.inr (2, [.float 1, .int 0, .int 0, .int 0])) := ab_self e2 ho
  exact ab_vret d_Named_init_10 rfl (Nat.le_refl _) (Nat.le_refl _) ⟨rfl, e2⟩
/-- a row of n Named at b: the array, then the objects -/
def at_Names (h : List ab_E) (b n : Nat) (nm : Nat → Value) (sc : Nat → Nat → Int32) : Prop :=
  h[b]? = some (.inl (.object "WorldEngine$Named", n, .inr (.inr (.inr (.inr (fun j => if j < n then some (b + 1 + j) else none)))))) ∧ ∀ j, j < n → h[b + 1 + j]? = some (.inr (2, [nm j, .int (sc 1 j), .int (sc 2 j), .int (sc 3 j)]))
def in_Names (b n : Nat) : Nat → Prop := fun i => b ≤ i ∧ i ≤ b + n
theorem fr_Names {S : Nat → Prop} {h h1 : List ab_E} {b n : Nat} {nm : Nat → Value} {sc : Nat → Nat → Int32} (hf : ab_fr S h h1) (h0 : at_Names h b n nm sc) (hn : ∀ i, in_Names b n i → ¬ S i) : at_Names h1 b n nm sc :=
  ⟨ab_fr_at hf h0.1 (hn _ (by show _ ∧ _; omega)), fun j hj => ab_fr_at hf (h0.2 j hj) (hn _ (by show _ ∧ _; omega))⟩
def ab_nrow (h : List ab_E) (b n i : Nat) : Prop :=
  h.length = b + 1 + i ∧ h[b]? = some (.inl (.object "WorldEngine$Named", n, .inr (.inr (.inr (.inr (fun j => if j < i then some (b + 1 + j) else none)))))) ∧ ∀ j, j < i → h[b + 1 + j]? = some (.inr (2, [.float 1, .int 0, .int 0, .int 0]))
theorem ab_up_row {b i : Nat} (hi : i < 2 ^ 31) : va_up (fun j => if j < i then some (b + 1 + j) else none) (nI i).toNatClampNeg (some (b + 1 + i)) = fun j => if j < i + 1 then some (b + 1 + j) else none := by
  rw [nI_clamp hi]
  funext j
  unfold va_up
  by_cases hj : j = i
  · subst hj; rw [if_pos rfl, if_pos (by omega)]
  · rw [if_neg hj]
    show (if j < i then some (b + 1 + j) else none) = _
    by_cases h2 : j < i
    · rw [if_pos h2, if_pos (by omega)]
    · rw [if_neg h2, if_neg (by omega)]
set_option maxRecDepth 20000 in
set_option maxHeartbeats 2000000 in
theorem l_Named_rowOf {b n : Nat} {v : Int32} {Po : Outcome → List ab_E → Prop} (hn : n ≤ 100) : ∀ (k i : Nat) (h : List ab_E), i + k = n → ab_nrow h b n i → (∀ h1, ab_nrow h1 b n n → ab_fr (in_up b) h h1 → Po (.returned (some (.ref b))) h1) →
    ab_V y_Named_rowOf { frames := 2, cells := n + 1, slots := 5 * n, locals := 60 } Po (n + 1) (5 * n) (1 + i) (n + 4 * i) 11 [some (.int v), some (.ref b), some (.int (nI i))] [] h := by
  intro k
  induction k with
  | zero =>
    intro i h hi hN hp
    have hL : h.length = b + 1 + i := hN.1
    have hA := hN.2.1
    refine ab_iload_n d_Named_rowOf_11 rfl rfl ?_
    refine ab_aload_n d_Named_rowOf_12 rfl rfl rfl ?_
    refine ab_alen (v := nI n) d_Named_rowOf_13 tN hA rfl ?_
    refine ab_icmp_ge (tgt := 33) d_Named_rowOf_14 (by decide) (fun q1 => ?_) (fun q1 => ?_)
    · refine ab_aload_n d_Named_rowOf_33 rfl rfl rfl ?_
      exact ab_aret d_Named_rowOf_34 rfl (Or.inr ⟨_, rfl⟩) rfl (show 1 + i ≤ n + 1 by omega) (show n + 4 * i ≤ 5 * n by omega) (hp _ (by obtain rfl : i = n := (by omega); exact hN) (ab_fr_rf _ _))
    · exact absurd (nI_le (a := n) (b := i) (by omega) (by omega)) q1
  | succ k ih =>
    intro i h hi hN hp
    have hL : h.length = b + 1 + i := hN.1
    have hA := hN.2.1
    refine ab_iload_n d_Named_rowOf_11 rfl rfl ?_
    refine ab_aload_n d_Named_rowOf_12 rfl rfl rfl ?_
    refine ab_alen (v := nI n) d_Named_rowOf_13 tN hA rfl ?_
    refine ab_icmp_ge (tgt := 33) d_Named_rowOf_14 (by decide) (fun q1 => ?_) (fun q1 => ?_)
    · exact absurd ((nI_leI (by omega) (by omega)).mp q1) (by omega)
    · refine ab_aload_n d_Named_rowOf_17 rfl rfl rfl ?_
      refine ab_iload_n d_Named_rowOf_18 rfl rfl ?_
      refine ab_newL (ci := 2) (fs := [.null, .int 0, .int 0, .int 0]) hL d_Named_rowOf_19 rfl (k2 220 rfl rfl) (k2 222 rfl rfl) (k1 16 rfl rfl) rfl rfl (show 1 + i + 1 ≤ n + 1 by omega) (show n + 4 * i + 4 ≤ 5 * n by omega) (fun h2 e3 e4 e5 => ?_)
      have c6 : h2[b + 1 + i]? = some (.inr (2, [.null, .int 0, .int 0, .int 0])) := e4
      have c7 : h2[b]? = some (.inl (.object "WorldEngine$Named", n, .inr (.inr (.inr (.inr (fun j => if j < i then some (b + 1 + j) else none)))))) := (e5 _ (by omega)).trans hA
      have l8 : h2.length = b + 1 + i + 1 := e3
      refine ab_dup d_Named_rowOf_22 rfl ?_
      refine ab_callI_v (As := []) (rest := [.ref (b + 1 + i), .int (nI i), .ref b]) d_Named_rowOf_23 (c_Named_init c6) (ab_mkC s_Named_init (Nat.le_of_ble_eq_true rfl) (Nat.le_of_ble_eq_true rfl) (show 1 + i + 1 + 0 ≤ n + 1 by omega) (show n + 4 * i + 4 + 0 ≤ 5 * n by omega)) (k2 223 rfl rfl) i_Named_init rfl (k2 225 rfl rfl) rfl (Nat.le_of_ble_eq_true rfl) (fun h9 e10 => ?_)
      have c11 : h9[b]? = some (.inl (.object "WorldEngine$Named", n, .inr (.inr (.inr (.inr (fun j => if j < i then some (b + 1 + j) else none)))))) := ab_other e10 (by omega) c7
      have c12 : h9[b+1+i]? = some (.inr (2, [.float 1, .int 0, .int 0, .int 0])) := ab_self e10 c6
      have l13 : h9.length = b + 1 + i + 1 := by rw [e10]; exact List.length_set.trans l8
      refine ab_aast d_Named_rowOf_26 tN c11 c12 rfl (vp_in_nI (by omega) (by omega)) ?_
      refine ab_gen (fun h14 e15 => ?_)
      have c16 : h14[b]? = some (.inl (.object "WorldEngine$Named", n, .inr (.inr (.inr (.inr (va_up (fun j => if j < i then some (b + 1 + j) else none) ((nI i)).toNatClampNeg (some (b + 1 + i)))))))) := ab_self e15 c11
      have c17 : h14[b+1+i]? = some (.inr (2, [.float 1, .int 0, .int 0, .int 0])) := ab_other e15 (by omega) c12
      have l18 : h14.length = b + 1 + i + 1 := by rw [e15]; exact List.length_set.trans l13
      obtain ⟨x19, ex19⟩ : ∃ q : Int32, q = nI i + 1 := ⟨_, rfl⟩
      refine ab_iinc (v := x19) (lv' := [some (.int v), some (.ref b), some (.int x19)]) d_Named_rowOf_27 rfl (by rw [ex19]; rfl) (by decide) rfl ?_
      refine ab_goto (tgt := 11) d_Named_rowOf_30 (by decide) ?_
      subst ex19
      rw [nI_1]
      rw [ab_up_row (by omega)] at c16
      have fr : ab_fr (in_up b) h h14 := (ab_fr_set (ab_fr_set (ab_fr_new (ab_fr_rf _ _) e5 e3) e10 (by first | (show _ ∧ _; omega) | (show _ ∨ _; omega) | (show _ = _; omega) | (show _ ≤ _; omega))) e15 (by first | (show _ ∧ _; omega) | (show _ ∨ _; omega) | (show _ = _; omega) | (show _ ≤ _; omega)))
      have fr2 : ∀ j, j < i → h14[b + 1 + j]? = h[b + 1 + j]? := fun j hj => (by have q : ab_fr (fun q => q = b ∨ q = b + 1 + i) h h14 := (ab_fr_set (ab_fr_set (ab_fr_new (ab_fr_rf _ _) e5 e3) e10 (by first | (show _ ∧ _; omega) | (show _ ∨ _; omega) | (show _ = _; omega) | (show _ ≤ _; omega))) e15 (by first | (show _ ∧ _; omega) | (show _ ∨ _; omega) | (show _ = _; omega) | (show _ ≤ _; omega))); exact q.2 _ (by omega) (by omega))
      refine ab_widen (cells' := 1 + (i + 1)) (slots' := n + 4 * (i + 1)) (show 1 + i + 1 + 0 ≤ 1 + (i + 1) by omega) (show n + 4 * i + 4 + 0 ≤ n + 4 * (i + 1) by omega) ?_
      exact ih (i + 1) h14 (by omega) ⟨by rw [l18]; omega, c16, fun j hj => by rcases Nat.lt_succ_iff_lt_or_eq.mp hj with q | q; exact (fr2 j q).trans (hN.2.2 j q); subst q; exact c17⟩ (fun h1 q1 q2 => hp h1 q1 (ab_fr_tr fr q2))
theorem c_max0 {h : List ab_E} (n : Nat) (hn : n < 2 ^ 31) : ab_M y_Math_max { frames := 0, cells := 0, slots := 0, locals := 0 } [.int 0, .int (nI n)] h (ab_A (some (.int (nI n))) (fun h1 => h = h1)) := by
  have q := c_Math_max (h := h) (p := 0) (q := nI n)
  have e : (if (0 : Int32) < nI n then nI n else 0) = nI n := by
    by_cases hz : n = 0
    · subst hz; rfl
    · exact if_pos (nI_lt (a := 0) (by omega) hn)
  rw [e] at q
  exact q
set_option maxRecDepth 20000 in
set_option maxHeartbeats 2000000 in
theorem c_Named_rowOf {h : List ab_E}  {b n : Nat}  (hn : n ≤ 100) (hlen : h.length = b) : ab_M y_Named_rowOf { frames := 2, cells := n + 1, slots := 5 * n, locals := 60 } [.int (nI n)] h (ab_A (some (.ref b)) (fun h1 => at_Names h1 b n (fun _ => .float 1) (fun _ _ => 0) ∧ h1.length = b + (n + 1) ∧ ab_fr (in_up b) h h1)) := by
  refine ab_of2 (lv := [some (.int (nI n)), none, none]) 2 rfl rfl (Nat.le_of_ble_eq_true rfl) ?_
  refine ab_iconst (v := 0) d_Named_rowOf_0 (by decide) ?_
  refine ab_iload_n d_Named_rowOf_1 rfl rfl ?_
  refine ab_callS_a (As := [.int 0, .int (nI n)]) (rest := []) d_Named_rowOf_2 (c_max0 n (by omega)) (ab_mkC s_Math_max (Nat.le_of_ble_eq_true rfl) (Nat.le_of_ble_eq_true rfl) (show 0 + 0 ≤ n + 1 by omega) (show 0 + 0 ≤ 5 * n by omega)) (k2 217 rfl rfl) t_Math_max rfl (Nat.le_of_ble_eq_true rfl) (fun h2 q1 => ?_)
  subst q1
  refine ab_anewL (N := n) hlen d_Named_rowOf_5 (k2 220 rfl rfl) (k2 221 rfl rfl) tN (nI_pos (by omega)) (nI_clamp (by omega)) (by omega) (show 0 + 0 + 1 ≤ n + 1 by omega) (show 0 + 0 + n ≤ 5 * n by omega) (fun h3 e4 e5 e6 => ?_)
  have c7 : h3[b]? = some (.inl (.object "WorldEngine$Named", n, .inr (.inr (.inr (.inr (fun _ => none)))))) := e5
  have l8 : h3.length = b + 1 := e4
  refine ab_astore_n (lv' := [some (.int (nI n)), some (.ref b), none]) d_Named_rowOf_8 rfl (by decide) rfl rfl ?_
  refine ab_iconst (v := 0) d_Named_rowOf_9 (by decide) ?_
  refine ab_istore_n (lv' := [some (.int (nI n)), some (.ref b), some (.int 0)]) d_Named_rowOf_10 rfl (by decide) rfl ?_
  rw [show (0 : Int32) = nI 0 from rfl]
  refine ab_widen (cells' := 1 + 0) (slots' := n + 4 * 0) (show 0 + 0 + 1 ≤ 1 + 0 by omega) (show 0 + 0 + n ≤ n + 4 * 0 by omega) ?_
  exact l_Named_rowOf hn n 0 h3 (by omega) ⟨l8, by rw [c7]; congr, fun j hj => absurd hj (by omega)⟩ (fun h1 q1 q2 => ⟨rfl, ⟨q1.2.1, q1.2.2⟩, by rw [q1.1]; omega, ab_fr_tr (ab_fr_new (ab_fr_rf _ _) e6 e4) q2⟩)
