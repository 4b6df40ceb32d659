/-! ===== a new object of the class (gen_c.py) ===== -/
def SQ (o lo : Nat) (ex : List Nat) (A : Hp) (n0 n : Nat) (ps : List (Nat × Nat × Nat)) (ds : List (Nat × Nat × Int32)) (sl : Nat) (H : Hp) : Prop := H.sh = sh0.take n ∧ H.sl = sl ∧ (∀ a f, a < n0 → a ≠ o → H.P a f = A.P a f ∧ H.D a f = A.D a f) ∧ (∀ q ∈ ps, H.P q.1 q.2.1 = .ref q.2.2) ∧ (∀ d ∈ ds, H.D d.1 d.2.1 = d.2.2) ∧ (∀ a f, lo ≤ a → a < n → (∀ x ∈ ex, x ≠ a) → (∀ d ∈ ds, ¬ (d.1 = a ∧ d.2.1 = f)) → H.D a f = 0) ∧ (14 ∈ ex → ∀ q, q < 256 → H.D 14 q = -1)
section Par
variable {A H : Hp} {o lo n0 n sl : Nat} {ex : List Nat} {ps : List (Nat × Nat × Nat)} {ds : List (Nat × Nat × Int32)} {Pq : Hp → Prop}
theorem SQ.len (h : SQ o lo ex A n0 n ps ds sl H) (hn : n ≤ 626) : H.sh.length = n := by rw [h.1, List.length_take, sh0_len]; omega
theorem SQ.get (h : SQ o lo ex A n0 n ps ds sl H) {a : Nat} {s : Nat × Nat} (ha : a < n) (hs : sh0[a]? = some s) : H.sh[a]? = some s := by rw [h.1, List.getElem?_take, if_pos ha]; exact hs
theorem q_nw {α : Type} {s : Nat × Nat} {kk : Nat} {Y : Hp → Nat → Option (α × Hp)} {Pa : α → Hp → Prop} (h : SQ o lo ex A n0 n ps ds sl H) (hn : n < 626) (hs : sh0[n]? = some s) (hq : ∀ q ∈ ps, q.1 < n) (hd : ∀ d ∈ ds, d.1 < n) (h0 : n0 ≤ n) (hx : 14 ∈ ex → 14 < n) (k : ∀ H3, SQ o lo ex A n0 (n + 1) ps ds (sl + kk) H3 → ∃ v H2, Y H3 n = some (v, H2) ∧ Pa v H2) : ∃ v H2, (bnd (H.nw s kk) fun H3 => bnd H.sh.length fun a4 => Y H3 a4) = some (v, H2) ∧ Pa v H2 := by
  have hl := h.len (by omega)
  obtain ⟨h1, h2, h3, h4, h5, h6, h7⟩ := h
  have p : ∀ a f, a ≠ n → (H.nw s kk).P a f = H.P a f := fun a f y => if_neg (by rw [hl]; exact y)
  have d : ∀ a f, a ≠ n → (H.nw s kk).D a f = H.D a f := fun a f y => if_neg (by rw [hl]; exact y)
  have dn : ∀ f, (H.nw s kk).D n f = 0 := fun f => if_pos hl.symm
  obtain ⟨v, H2, e1, e2⟩ := k (H.nw s kk) ⟨by show H.sh ++ [s] = _; rw [h1, List.take_add_one, hs]; rfl, by show H.sl + kk = _; rw [h2], fun a f y1 y2 => by rw [p a f (by omega), d a f (by omega)]; exact h3 a f y1 y2, fun q y => by rw [p _ _ (by have := hq q y; omega)]; exact h4 q y, fun q y => by rw [d _ _ (by have := hd q y; omega)]; exact h5 q y, fun a f y1 y2 y3 y4 => by
    by_cases z : a = n
    · rw [z]; exact dn f
    · rw [d a f z]; exact h6 a f y1 (by omega) y3 y4, fun y q hq2 => by rw [d 14 q (by have := hx y; omega)]; exact h7 y q hq2⟩
  refine ⟨v, H2, ?_, e2⟩
  rw [bnd_t, bnd_t, hl]
  exact e1
theorem q_ck {α : Type} {Pa : α → Hp → Prop} {c : Prop} [Decidable c] {Y : Option (α × Hp)} (hc : c) (k : ∃ v H2, Y = some (v, H2) ∧ Pa v H2) : ∃ v H2, ck c Y = some (v, H2) ∧ Pa v H2 := by rw [ck_t hc]; exact k
theorem q_sP {α : Type} {Pa : α → Hp → Prop} {a f t : Nat} {Y : Hp → Option (α × Hp)} (h : SQ o lo ex A n0 n ps ds sl H) (ha : n0 ≤ a ∨ a = o) (hq : ∀ q ∈ ps, ¬ (q.1 = a ∧ q.2.1 = f)) (k : ∀ H3, SQ o lo ex A n0 n ((a, f, t) :: ps) ds sl H3 → ∃ v H2, Y H3 = some (v, H2) ∧ Pa v H2) : ∃ v H2, (bnd (H.sP a f (.ref t)) fun H3 => Y H3) = some (v, H2) ∧ Pa v H2 := by
  obtain ⟨h1, h2, h3, h4, h5, h6, h7⟩ := h
  have oo : ∀ x g, ¬ (x = a ∧ g = f) → (H.sP a f (.ref t)).P x g = H.P x g := fun x g y => by
    apply sP_o
    by_cases z : x = a
    · exact .inr (fun w => y ⟨z, w⟩)
    · exact .inl z
  exact k (H.sP a f (.ref t)) ⟨h1, h2, fun x g y1 y2 => ⟨by rw [oo x g (by omega)]; exact (h3 x g y1 y2).1, (h3 x g y1 y2).2⟩, fun q y => by
    rcases List.mem_cons.mp y with y | y
    · rw [y]; exact sP_s
    · rw [oo _ _ (hq q y)]; exact h4 q y, h5, h6, h7⟩
theorem q_sD {α : Type} {Pa : α → Hp → Prop} {a f : Nat} {v : Int32} {Y : Hp → Option (α × Hp)} (h : SQ o lo ex A n0 n ps ds sl H) (ha : n0 ≤ a ∨ a = o) (hq : ∀ d ∈ ds, ¬ (d.1 = a ∧ d.2.1 = f)) (hx : 14 ∈ ex → a ≠ 14) (k : ∀ H3, SQ o lo ex A n0 n ps ((a, f, v) :: ds) sl H3 → ∃ w H2, Y H3 = some (w, H2) ∧ Pa w H2) : ∃ w H2, (bnd (H.sD a f v) fun H3 => Y H3) = some (w, H2) ∧ Pa w H2 := by
  obtain ⟨h1, h2, h3, h4, h5, h6, h7⟩ := h
  exact k (H.sD a f v) ⟨h1, h2, fun x g y1 y2 => ⟨(h3 x g y1 y2).1, by rw [rdnn (by omega)]; exact (h3 x g y1 y2).2⟩, h4, fun q y => by
    rcases List.mem_cons.mp y with y | y
    · rw [y]; exact rds
    · rw [rdnn (hq q y)]; exact h5 q y, fun x g y1 y2 y3 y4 => by
    rw [rdnn (fun z => y4 (a, f, v) List.mem_cons_self ⟨z.1.symm, z.2.symm⟩)]
    exact h6 x g y1 y2 y3 (fun q y => y4 q (List.mem_cons_of_mem _ y)), fun y q hq2 => by rw [rdw (fun z => hx y z.symm)]; exact h7 y q hq2⟩
theorem q_call {α β : Type} {Pa : α → Hp → Prop} {F : Option (β × Hp)} {Y : β → Hp → Option (α × Hp)} {Qq : β → Hp → Prop} (z : ∃ v H3, F = some (v, H3) ∧ Qq v H3) (k : ∀ v H3, Qq v H3 → ∃ w H2, Y v H3 = some (w, H2) ∧ Pa w H2) : ∃ w H2, bC F Y = some (w, H2) ∧ Pa w H2 := by
  obtain ⟨v, H3, z1, z2⟩ := z
  obtain ⟨w, H2, k1, k2⟩ := k v H3 z2
  exact ⟨w, H2, by rw [bC_t z1]; exact k1, k2⟩
theorem q_rf {α : Type} {Pa : α → Hp → Prop} {a f t : Nat} {Y : Nat → Option (α × Hp)} (h : SQ o lo ex A n0 n ps ds sl H) (hp : (a, f, t) ∈ ps) (k : ∃ v H2, Y t = some (v, H2) ∧ Pa v H2) : ∃ v H2, rf (H.P a f) Y = some (v, H2) ∧ Pa v H2 := by
  rw [rf_t (h.2.2.2.1 _ hp)]
  exact k
theorem q_end {α : Type} {Pa : α → Hp → Prop} {v : α} {H2 : Hp} (h : Pa v H2) : ∃ w H3, some (v, H2) = some (w, H3) ∧ Pa w H3 := ⟨v, H2, rfl, h⟩
/-- an array was filled -/
theorem SQ.xx {e : Nat} {H2 : Hp} (h : SQ o lo ex A n0 n ps ds sl H) (hs : same (fun x g => x = e) H H2) (he : n0 ≤ e) (hd : ∀ d ∈ ds, d.1 ≠ e) (h14 : e = 14 → ∀ q, q < 256 → H2.D 14 q = -1) : SQ o lo (e :: ex) A n0 n ps ds sl H2 := by
  obtain ⟨h1, h2, h3, h4, h5, h6, h7⟩ := h
  have d : ∀ a f, a ≠ e → H2.D a f = H.D a f := fun a f y => hs.1 _ _ y
  exact ⟨by rw [hs.2.2.2.1]; exact h1, by rw [hs.2.2.2.2]; exact h2, fun a f y1 y2 => by rw [hs.2.1, d a f (by omega)]; exact h3 a f y1 y2, fun q y => by rw [hs.2.1]; exact h4 q y, fun q y => by rw [d _ _ (hd q y)]; exact h5 q y, fun a f y1 y2 y3 y4 => by
    rw [d a f (fun z => y3 e List.mem_cons_self z.symm)]
    exact h6 a f y1 y2 (fun x y => y3 x (List.mem_cons_of_mem _ y)) y4, fun y q hq2 => by
    by_cases z : e = 14
    · exact h14 z q hq2
    · rw [d 14 q (fun w => z w.symm)]
      rcases List.mem_cons.mp y with y | y
      · exact absurd y.symm z
      · exact h7 y q hq2⟩
/-- a row of names -/
theorem q_row {N cn : Nat} {p0 : Int32} (hc : cn ≤ 100) (L : Nat) (hLo : n0 ≤ L) : ∀ j i fu n sl H ps, i + j = cn → j < fu → n + j ≤ 626 → L < n → SQ o lo ex A n0 n ps ds sl H → H.sh[L]? = some (106, cn) → (∀ x, n ≤ x → x < n + j → sh0[x]? = some (2, 0)) → (∀ q ∈ ps, q.1 < n) → (∀ d ∈ ds, d.1 < n) → n0 ≤ n → (14 ∈ ex → 14 < n) → (∀ q ∈ ps, ¬ (q.1 = L ∧ i ≤ q.2.1)) → ∃ v H2, B_Named_rowOf_11 N p0 fu L (nI i) H = some (v, H2) ∧ v = some L ∧ SQ o lo ex A n0 (n + j) (((List.range j).map fun x => (L, i + x, n + x)) ++ ps) ds (sl + 4 * j) H2 := by
  intro j
  induction j with
  | zero =>
    intro i fu n sl H ps hi hf hn hL h hs hsh hq hd h0 hx hp
    obtain ⟨fu, rfl⟩ : ∃ y, fu = y + 1 := ⟨fu - 1, by omega⟩
    refine ⟨some L, H, ?_, rfl, h⟩
    rw [B_Named_rowOf_11, ar_t hs, if_pos (show Int32.ofNat cn ≤ nI i from nI_le (by omega) (by omega))]
  | succ j ih =>
    intro i fu n sl H ps hi hf hn hL h hs hsh hq hd h0 hx hp
    obtain ⟨fu, rfl⟩ : ∃ y, fu = y + 1 := ⟨fu - 1, by omega⟩
    have hl := h.len (by omega)
    obtain ⟨h1, h2, h3, h4, h5, h6, h7⟩ := h
    generalize hK : (((H.nw (2, 0) 4).sP n 0 (.float 1)).sP L i (.ref n)) = K
    have kP : ∀ a f, a ≠ n → ¬ (a = L ∧ f = i) → K.P a f = H.P a f := fun a f y1 y2 => by
      have z0 : a ≠ L ∨ f ≠ i := by
        by_cases z : a = L
        · exact .inr fun w => y2 ⟨z, w⟩
        · exact .inl z
      rw [← hK, sP_o z0, sP_o (.inl y1)]
      exact if_neg (by rw [hl]; exact y1)
    have kL : K.P L i = .ref n := by rw [← hK]; exact sP_s
    have kD : ∀ a f, a ≠ n → K.D a f = H.D a f := fun a f y => by rw [← hK]; exact if_neg (by rw [hl]; exact y)
    have kN : ∀ f, K.D n f = 0 := fun f => by rw [← hK]; exact if_pos hl.symm
    have ks : K.sh = H.sh ++ [(2, 0)] := by rw [← hK]; rfl
    have kl : K.sl = H.sl + 4 := by rw [← hK]; rfl
    have hsn := hsh n (Nat.le_refl _) (by omega)
    have step : B_Named_rowOf_11 N p0 (fu + 1) L (nI i) H = B_Named_rowOf_11 N p0 fu L (nI (i + 1)) K := by
      have g1 : (H.nw (2, 0) 4).sh[n]? = some (2, 0) := by show (H.sh ++ [(2, 0)])[n]? = _; rw [← hl, List.getElem?_append_right (Nat.le_refl _), Nat.sub_self]; rfl
      rw [B_Named_rowOf_11, ar_t hs, if_neg (show ¬ Int32.ofNat cn ≤ nI i from nI_ge (by omega) (by omega)), bnd_t, bnd_t, hl, show F_Named_init N n (H.nw (2, 0) 4) = some ((), (H.nw (2, 0) 4).sP n 0 (.float 1)) by unfold F_Named_init; rw [ck_t g1, bnd_t], bC_v, ck_t (nI_in (by omega) (by omega)), ck_t (show ((H.nw (2, 0) 4).sP n 0 (.float 1)).sh[n]? = some (2, 0) from g1), cN (by omega), bnd_t, hK, nI_1]
    have hSK : SQ o lo ex A n0 (n + 1) ((L, i, n) :: ps) ds (sl + 4) K := ⟨by rw [ks, h1, List.take_add_one, hsn]; rfl, by rw [kl, h2], fun a f y1 y2 => by rw [kP a f (by omega) (by omega), kD a f (by omega)]; exact h3 a f y1 y2, fun q y => by
      rcases List.mem_cons.mp y with y | y
      · rw [y]; exact kL
      · rw [kP _ _ (by have := hq q y; omega) (fun z => hp q y ⟨z.1, by omega⟩)]; exact h4 q y, fun q y => by rw [kD _ _ (by have := hd q y; omega)]; exact h5 q y, fun a f y1 y2 y3 y4 => by
      by_cases z : a = n
      · rw [z]; exact kN f
      · rw [kD a f z]; exact h6 a f y1 (by omega) y3 y4, fun y q hq2 => by rw [kD 14 q (by have := hx y; omega)]; exact h7 y q hq2⟩
    obtain ⟨v, H2, r1, r2, r3⟩ := ih (i + 1) fu (n + 1) (sl + 4) K ((L, i, n) :: ps) (by omega) (by omega) (by omega) (by omega) hSK (by rw [ks, List.getElem?_append_left (by omega)]; exact hs) (fun x y1 y2 => hsh x (by omega) (by omega)) (fun q y => by
      rcases List.mem_cons.mp y with y | y
      · rw [y]; exact Nat.lt_succ_of_lt hL
      · have := hq q y; omega) (fun q y => by have := hd q y; omega) (by omega) (fun y => by have := hx y; omega) (fun q y k => by
      rcases List.mem_cons.mp y with y | y
      · rw [y] at k; have := k.2; simp only at this; omega
      · exact hp q y ⟨k.1, by omega⟩)
    refine ⟨v, H2, by rw [step]; exact r1, r2, ?_⟩
    obtain ⟨g1, g2, g3, g4, g5, g6, g7⟩ := r3
    refine ⟨by rw [g1, show n + 1 + j = n + (j + 1) by omega], by rw [g2]; omega, g3, fun q y => g4 q ?_, g5, fun a f y1 y2 y3 y4 => g6 a f y1 (by omega) y3 y4, g7⟩
    rcases List.mem_append.mp y with y | y
    · obtain ⟨x, x1, x2⟩ := List.mem_map.mp y
      rw [List.mem_range] at x1
      cases x with
      | zero => exact List.mem_append_right _ (by rw [← x2]; exact List.mem_cons_self)
      | succ x => exact List.mem_append_left _ (List.mem_map.mpr ⟨x, List.mem_range.mpr (by omega), by rw [← x2, show i + 1 + x = i + (x + 1) by omega, show n + 1 + x = n + (x + 1) by omega]⟩)
    · exact List.mem_append_right _ (List.mem_cons_of_mem _ y)
theorem q_rowOf {N cn : Nat} (hN : 300 ≤ N) (hc : cn ≤ 100) (h : SQ o lo ex A n0 n ps ds sl H) (hn : n + 1 + cn ≤ 626) (hs : sh0[n]? = some (106, cn)) (hsh : ∀ x, n + 1 ≤ x → x < n + 1 + cn → sh0[x]? = some (2, 0)) (hq : ∀ q ∈ ps, q.1 < n) (hd : ∀ d ∈ ds, d.1 < n) (h0 : n0 ≤ n) (hx : 14 ∈ ex → 14 < n) : ∃ v H2, F_Named_rowOf N (nI cn) H = some (v, H2) ∧ v = some n ∧ SQ o lo ex A n0 (n + 1 + cn) (((List.range cn).map fun x => (n, 0 + x, n + 1 + x)) ++ ps) ds (sl + cn + 4 * cn) H2 := by
  have e1 : F_Math_max N (0 : Int32) (nI cn) H = some (nI cn, H) := by
    unfold F_Math_max
    by_cases y : (0 : Int32) < nI cn
    · rw [if_pos y]
    · have : cn = 0 := Decidable.byContradiction fun z => y (nI_lt (a := 0) (by omega) (by omega))
      rw [if_neg y, this]
      rfl
  unfold F_Named_rowOf
  rw [bC_t e1, ck_t (show ¬ nI cn < (0 : Int32) from nI_nlt (b := 0) (by omega) (by omega)), ck_t (by rw [cN (by omega)]; omega), cN (by omega)]
  refine q_nw h (by omega) hs hq hd h0 hx (fun K hK => ?_)
  exact q_row hc n h0 cn 0 N (n + 1) (sl + cn) K ps (by omega) (by omega) hn (by omega) hK (hK.get (by omega) hs) hsh (fun q y => by have := hq q y; omega) (fun q y => by have := hd q y; omega) (by omega) (fun y => by have := hx y; omega) (fun q y k => by have := hq q y; omega)
theorem SQ.base (h : SQ o lo ex A n0 n ps ds sl H) : SQ 0 n [] H n n [] [] sl H := ⟨h.1, h.2.1, fun _ _ _ _ => ⟨rfl, rfl⟩, fun q y => absurd y List.not_mem_nil, fun q y => absurd y List.not_mem_nil, fun a f y1 y2 => by omega, fun y => absurd y List.not_mem_nil⟩
theorem SQ.sq {s2 : Nat} (h : SQ o lo ex A n0 n ps ds sl H) (e : sl = s2) : SQ o lo ex A n0 n ps ds s2 H := by rw [← e]; exact h
def csp (k : Nat) : Nat := ((List.range k).filter (fun i => kch i == 32)).length
theorem csp0 : ∀ k : Fin 214, (kch k.val = 32 → csp k.val < 41 ∧ wst (csp k.val + 1) = k.val + 1 ∧ csp (k.val + 1) = csp k.val + 1) ∧ (¬ kch k.val = 32 → csp (k.val + 1) = csp k.val) := by decide +kernel
theorem kch_lt : ∀ k : Fin 214, kch k.val < 128 := by decide +kernel
theorem sw_lp {N : Nat} : ∀ j l2 fu H, l2 + j = 214 → j < fu → H.sh[1]? = some (1, 0) → H.P 1 12 = .ref 7 → H.sh[7]? = some (100, 42) → (∀ x, x ≤ csp l2 → H.D 7 x = nI (wst x)) → ∃ H2, B_Lexer_init_61 N 1 fu (nI (csp l2)) (nI l2) H = some ((), H2) ∧ same (fun a g => a = 7) H H2 ∧ ∀ x, x ≤ csp 214 → H2.D 7 x = nI (wst x) := by
  have eL : ∀ H : Hp, F_Str_length_K0 N H = some (nI 214, H) := fun H => by
    have e : F_Str_coder_K0 N H = some (0, H) := by
      unfold F_Str_coder_K0
      rw [if_neg (by decide)]
    unfold F_Str_length_K0
    rw [bC_t e]
    rfl
  intro j
  induction j with
  | zero =>
    intro l2 fu H h1 h2 s1 p1 s7 hx
    obtain ⟨fu, rfl⟩ : ∃ y, fu = y + 1 := ⟨fu - 1, by omega⟩
    obtain rfl : l2 = 214 := by omega
    exact ⟨H, by rw [B_Lexer_init_61, bC_t (eL H), if_pos (nI_le (by omega) (by omega))], same.rf, hx⟩
  | succ j ih =>
    intro l2 fu H h1 h2 s1 p1 s7 hx
    obtain ⟨fu, rfl⟩ : ∃ y, fu = y + 1 := ⟨fu - 1, by omega⟩
    have c0 := csp0 ⟨l2, by omega⟩
    have c1 := kch_lt ⟨l2, by omega⟩
    simp only at c0 c1
    have hd : B_Lexer_init_61 N 1 (fu + 1) (nI (csp l2)) (nI l2) H = if kch l2 = 32 then B_Lexer_init_61 N 1 fu (nI (csp l2 + 1)) (nI (l2 + 1)) (H.sD 7 (csp l2 + 1) (nI (l2 + 1))) else B_Lexer_init_61 N 1 fu (nI (csp l2)) (nI (l2 + 1)) H := by
      rw [B_Lexer_init_61, bC_t (eL H), if_neg (nI_ge (by omega) (by omega)), bC_t (ev_kc (show l2 < 214 by omega))]
      by_cases y : kch l2 = 32
      · have y3 := c0.1 y
        rw [if_pos (show nI (kch l2) = (32 : Int32) by rw [y]; rfl), if_neg (show ¬ (41 : Int32) ≤ nI (csp l2) from nI_ge (b := 41) y3.1 (by decide)), ck_t s1, rf_t p1, ar_t s7, nI_1, nI_1, wrI (show csp l2 + 1 < 42 by omega) (by decide), if_pos y]
        unfold B_Lexer_init_99
        rw [nI_1]
      · rw [if_neg (show ¬ nI (kch l2) = (32 : Int32) from fun z => y ((nI_eq (b := 32) (by omega) (by decide)).mp z)), if_neg y]
        unfold B_Lexer_init_99
        rw [nI_1]
    by_cases y : kch l2 = 32
    · obtain ⟨y1, y2, y3⟩ := c0.1 y
      obtain ⟨H2, r1, r2, r3⟩ := ih (l2 + 1) fu (H.sD 7 (csp l2 + 1) (nI (l2 + 1))) (by omega) (by omega) s1 p1 s7 (fun x hx2 => by
        by_cases z : x = csp l2 + 1
        · rw [z, rds, y2]
        · rw [rdf z]; exact hx x (by omega))
      rw [y3] at r1
      have q1 : same (fun a g => a = 7) H (H.sD 7 (csp l2 + 1) (nI (l2 + 1))) := same.rf.sD rfl
      exact ⟨H2, by rw [hd, if_pos y]; exact r1, q1.tr r2, r3⟩
    · have y3 := c0.2 y
      obtain ⟨H2, r1, r2, r3⟩ := ih (l2 + 1) fu H (by omega) (by omega) s1 p1 s7 (fun x hx2 => hx x (by omega))
      rw [y3] at r1
      exact ⟨H2, by rw [hd, if_neg y]; exact r1, r2, r3⟩
theorem q_on {α : Type} {Pa : α → Hp → Prop} {a : Nat} {Y : Nat → Option (α × Hp)} (k : ∃ v H2, Y a = some (v, H2) ∧ Pa v H2) : ∃ v H2, on (some a) Y = some (v, H2) ∧ Pa v H2 := k
theorem mx0 {N : Nat} {x : Int32} {H : Hp} (h : (0 : Int32) < x) : F_Math_max N (0 : Int32) x H = some (x, H) := by unfold F_Math_max; rw [if_pos h]
set_option maxRecDepth 20000 in
set_option maxHeartbeats 4000000 in
theorem ci_1 {N : Nat} (hN : 300 ≤ N) (h0 : SQ 1 1 [] A 1 2 [] [] (sl) H) : ∃ v H2, F_Lexer_init N 1 H = some (v, H2) ∧ (SQ 1 1 [7] A 1 8 ((1, 12, 7) :: ((1, 9, 6) :: ((1, 8, 5) :: ((1, 7, 4) :: ((1, 6, 3) :: ((1, 0, 2) :: [])))))) [] (sl + 6000 + 6001 + 6001 + 6001 + 6001 + 42) H2) ∧ ∀ x, x < 42 → H2.D 7 x = nI (wst x) := by
  unfold F_Lexer_init
  refine q_ck (by decide) ?_
  refine q_ck (by decide) ?_
  refine q_nw h0 (by decide) (by decide +kernel) (by decide +kernel) (by decide +kernel) (by decide) (by decide) (fun K1 h1 => ?_)
  refine q_ck (SQ.get h1 (by decide) (by decide +kernel)) ?_
  refine q_sP h1 (by decide) (by decide +kernel) (fun K2 h2 => ?_)
  refine q_ck (by decide) ?_
  refine q_ck (by decide) ?_
  refine q_nw h2 (by decide) (by decide +kernel) (by decide +kernel) (by decide +kernel) (by decide) (by decide) (fun K3 h3 => ?_)
  refine q_sP h3 (by decide) (by decide +kernel) (fun K4 h4 => ?_)
  refine q_ck (by decide) ?_
  refine q_ck (by decide) ?_
  refine q_nw h4 (by decide) (by decide +kernel) (by decide +kernel) (by decide +kernel) (by decide) (by decide) (fun K5 h5 => ?_)
  refine q_sP h5 (by decide) (by decide +kernel) (fun K6 h6 => ?_)
  refine q_ck (by decide) ?_
  refine q_ck (by decide) ?_
  refine q_nw h6 (by decide) (by decide +kernel) (by decide +kernel) (by decide +kernel) (by decide) (by decide) (fun K7 h7 => ?_)
  refine q_sP h7 (by decide) (by decide +kernel) (fun K8 h8 => ?_)
  refine q_ck (by decide) ?_
  refine q_ck (by decide) ?_
  refine q_nw h8 (by decide) (by decide +kernel) (by decide +kernel) (by decide +kernel) (by decide) (by decide) (fun K9 h9 => ?_)
  refine q_sP h9 (by decide) (by decide +kernel) (fun K10 h10 => ?_)
  refine q_ck (by decide) ?_
  refine q_ck (by decide) ?_
  refine q_nw h10 (by decide) (by decide +kernel) (by decide +kernel) (by decide +kernel) (by decide) (by decide) (fun K11 h11 => ?_)
  refine q_sP h11 (by decide) (by decide +kernel) (fun K12 h12 => ?_)
  obtain ⟨F2, f1, f2, f3⟩ := sw_lp (N := N) 214 0 N _ (by decide) (by omega) (SQ.get h12 (a := 1) (s := (1, 0)) (by decide) (by decide +kernel)) (h12.2.2.2.1 (1, 12, 7) (by decide)) (SQ.get h12 (a := 7) (s := (100, 42)) (by decide) (by decide +kernel)) (fun x hx => by have c0 : csp 0 = 0 := (by decide +kernel); rw [c0] at hx; rw [show x = 0 by omega]; exact h12.2.2.2.2.2.1 7 0 (by decide) (by decide) (by decide) (by decide))
  refine ⟨(), F2, f1, SQ.xx h12 f2 (by decide) (by decide) (fun z => absurd z (by decide)), fun x hx => f3 x (by rw [show csp 214 = 41 by decide +kernel]; omega)⟩
set_option maxRecDepth 20000 in
set_option maxHeartbeats 4000000 in
theorem ci_12 {N : Nat} (hN : 300 ≤ N) (h0 : SQ 11 11 [] A 11 13 [] [] (sl) H) : ∃ v H2, F_World_init N 12 H = some (v, H2) ∧ SQ 11 11 [14] A 11 18 ((12, 14, 17) :: ((12, 12, 16) :: ((12, 11, 15) :: ((12, 8, 14) :: ((12, 7, 13) :: []))))) [] (sl + 256 + 256 + 12288 + 1792 + 32) H2 := by
  unfold F_World_init
  refine q_ck (by decide) ?_
  refine q_ck (by decide) ?_
  refine q_nw h0 (by decide) (by decide +kernel) (by decide +kernel) (by decide +kernel) (by decide) (by decide) (fun K1 h1 => ?_)
  refine q_ck (SQ.get h1 (by decide) (by decide +kernel)) ?_
  refine q_sP h1 (by decide) (by decide +kernel) (fun K2 h2 => ?_)
  refine q_ck (by decide) ?_
  refine q_ck (by decide) ?_
  refine q_nw h2 (by decide) (by decide +kernel) (by decide +kernel) (by decide +kernel) (by decide) (by decide) (fun K3 h3 => ?_)
  refine q_sP h3 (by decide) (by decide +kernel) (fun K4 h4 => ?_)
  refine q_rf (t := 14) h4 (by decide +kernel) ?_
  obtain ⟨F2, f1, f2, f3⟩ := ev_fill (N := N) (v := -1) (by omega) (by decide) (SQ.get h4 (a := 14) (s := (100, 256)) (by decide) (by decide +kernel))
  rw [bC_t f1]
  have h5 := SQ.xx h4 f2 (by decide) (by decide +kernel) (fun z => f3)
  refine q_ck (by decide) ?_
  refine q_ck (by decide) ?_
  refine q_nw h5 (by decide) (by decide +kernel) (by decide +kernel) (by decide +kernel) (by decide) (by decide) (fun K6 h6 => ?_)
  refine q_sP h6 (by decide) (by decide +kernel) (fun K7 h7 => ?_)
  refine q_ck (by decide) ?_
  refine q_ck (by decide) ?_
  refine q_nw h7 (by decide) (by decide +kernel) (by decide +kernel) (by decide +kernel) (by decide) (by decide) (fun K8 h8 => ?_)
  refine q_sP h8 (by decide) (by decide +kernel) (fun K9 h9 => ?_)
  refine q_ck (by decide) ?_
  refine q_ck (by decide) ?_
  refine q_nw h9 (by decide) (by decide +kernel) (by decide +kernel) (by decide +kernel) (by decide) (by decide) (fun K10 h10 => ?_)
  refine q_sP h10 (by decide) (by decide +kernel) (fun K11 h11 => ?_)
  exact q_end (h11)
set_option maxRecDepth 20000 in
set_option maxHeartbeats 4000000 in
theorem ci_19 {N : Nat} (hN : 300 ≤ N) (h0 : SQ 11 11 [14] A 11 20 ((11, 6, 18) :: ((11, 0, 12) :: ((12, 14, 17) :: ((12, 12, 16) :: ((12, 11, 15) :: ((12, 8, 14) :: ((12, 7, 13) :: []))))))) [] (sl) H) : ∃ v H2, F_World_init N 19 H = some (v, H2) ∧ SQ 11 11 [21, 14] A 11 25 ((19, 14, 24) :: ((19, 12, 23) :: ((19, 11, 22) :: ((19, 8, 21) :: ((19, 7, 20) :: ((11, 6, 18) :: ((11, 0, 12) :: ((12, 14, 17) :: ((12, 12, 16) :: ((12, 11, 15) :: ((12, 8, 14) :: ((12, 7, 13) :: [])))))))))))) [] (sl + 256 + 256 + 12288 + 1792 + 32) H2 := by
  unfold F_World_init
  refine q_ck (by decide) ?_
  refine q_ck (by decide) ?_
  refine q_nw h0 (by decide) (by decide +kernel) (by decide +kernel) (by decide +kernel) (by decide) (by decide) (fun K1 h1 => ?_)
  refine q_ck (SQ.get h1 (by decide) (by decide +kernel)) ?_
  refine q_sP h1 (by decide) (by decide +kernel) (fun K2 h2 => ?_)
  refine q_ck (by decide) ?_
  refine q_ck (by decide) ?_
  refine q_nw h2 (by decide) (by decide +kernel) (by decide +kernel) (by decide +kernel) (by decide) (by decide) (fun K3 h3 => ?_)
  refine q_sP h3 (by decide) (by decide +kernel) (fun K4 h4 => ?_)
  refine q_rf (t := 21) h4 (by decide +kernel) ?_
  obtain ⟨F2, f1, f2, f3⟩ := ev_fill (N := N) (v := -1) (by omega) (by decide) (SQ.get h4 (a := 21) (s := (100, 256)) (by decide) (by decide +kernel))
  rw [bC_t f1]
  have h5 := SQ.xx h4 f2 (by decide) (by decide +kernel) (fun z => absurd z (by decide))
  refine q_ck (by decide) ?_
  refine q_ck (by decide) ?_
  refine q_nw h5 (by decide) (by decide +kernel) (by decide +kernel) (by decide +kernel) (by decide) (by decide) (fun K6 h6 => ?_)
  refine q_sP h6 (by decide) (by decide +kernel) (fun K7 h7 => ?_)
  refine q_ck (by decide) ?_
  refine q_ck (by decide) ?_
  refine q_nw h7 (by decide) (by decide +kernel) (by decide +kernel) (by decide +kernel) (by decide) (by decide) (fun K8 h8 => ?_)
  refine q_sP h8 (by decide) (by decide +kernel) (fun K9 h9 => ?_)
  refine q_ck (by decide) ?_
  refine q_ck (by decide) ?_
  refine q_nw h9 (by decide) (by decide +kernel) (by decide +kernel) (by decide +kernel) (by decide) (by decide) (fun K10 h10 => ?_)
  refine q_sP h10 (by decide) (by decide +kernel) (fun K11 h11 => ?_)
  exact q_end (h11)
set_option maxRecDepth 20000 in
set_option maxHeartbeats 4000000 in
theorem ci_25 {N : Nat} (hN : 300 ≤ N) (h0 : SQ 11 11 [21, 14] A 11 26 ((18, 0, 19) :: ((19, 14, 24) :: ((19, 12, 23) :: ((19, 11, 22) :: ((19, 8, 21) :: ((19, 7, 20) :: ((11, 6, 18) :: ((11, 0, 12) :: ((12, 14, 17) :: ((12, 12, 16) :: ((12, 11, 15) :: ((12, 8, 14) :: ((12, 7, 13) :: []))))))))))))) [] (sl) H) : ∃ v H2, F_World_init N 25 H = some (v, H2) ∧ SQ 11 11 [27, 21, 14] A 11 31 ((25, 14, 30) :: ((25, 12, 29) :: ((25, 11, 28) :: ((25, 8, 27) :: ((25, 7, 26) :: ((18, 0, 19) :: ((19, 14, 24) :: ((19, 12, 23) :: ((19, 11, 22) :: ((19, 8, 21) :: ((19, 7, 20) :: ((11, 6, 18) :: ((11, 0, 12) :: ((12, 14, 17) :: ((12, 12, 16) :: ((12, 11, 15) :: ((12, 8, 14) :: ((12, 7, 13) :: [])))))))))))))))))) [] (sl + 256 + 256 + 12288 + 1792 + 32) H2 := by
  unfold F_World_init
  refine q_ck (by decide) ?_
  refine q_ck (by decide) ?_
  refine q_nw h0 (by decide) (by decide +kernel) (by decide +kernel) (by decide +kernel) (by decide) (by decide) (fun K1 h1 => ?_)
  refine q_ck (SQ.get h1 (by decide) (by decide +kernel)) ?_
  refine q_sP h1 (by decide) (by decide +kernel) (fun K2 h2 => ?_)
  refine q_ck (by decide) ?_
  refine q_ck (by decide) ?_
  refine q_nw h2 (by decide) (by decide +kernel) (by decide +kernel) (by decide +kernel) (by decide) (by decide) (fun K3 h3 => ?_)
  refine q_sP h3 (by decide) (by decide +kernel) (fun K4 h4 => ?_)
  refine q_rf (t := 27) h4 (by decide +kernel) ?_
  obtain ⟨F2, f1, f2, f3⟩ := ev_fill (N := N) (v := -1) (by omega) (by decide) (SQ.get h4 (a := 27) (s := (100, 256)) (by decide) (by decide +kernel))
  rw [bC_t f1]
  have h5 := SQ.xx h4 f2 (by decide) (by decide +kernel) (fun z => absurd z (by decide))
  refine q_ck (by decide) ?_
  refine q_ck (by decide) ?_
  refine q_nw h5 (by decide) (by decide +kernel) (by decide +kernel) (by decide +kernel) (by decide) (by decide) (fun K6 h6 => ?_)
  refine q_sP h6 (by decide) (by decide +kernel) (fun K7 h7 => ?_)
  refine q_ck (by decide) ?_
  refine q_ck (by decide) ?_
  refine q_nw h7 (by decide) (by decide +kernel) (by decide +kernel) (by decide +kernel) (by decide) (by decide) (fun K8 h8 => ?_)
  refine q_sP h8 (by decide) (by decide +kernel) (fun K9 h9 => ?_)
  refine q_ck (by decide) ?_
  refine q_ck (by decide) ?_
  refine q_nw h9 (by decide) (by decide +kernel) (by decide +kernel) (by decide +kernel) (by decide) (by decide) (fun K10 h10 => ?_)
  refine q_sP h10 (by decide) (by decide +kernel) (fun K11 h11 => ?_)
  exact q_end (h11)
set_option maxRecDepth 20000 in
set_option maxHeartbeats 4000000 in
theorem ci_31 {N : Nat} (hN : 300 ≤ N) (h0 : SQ 11 11 [27, 21, 14] A 11 32 ((18, 1, 25) :: ((25, 14, 30) :: ((25, 12, 29) :: ((25, 11, 28) :: ((25, 8, 27) :: ((25, 7, 26) :: ((18, 0, 19) :: ((19, 14, 24) :: ((19, 12, 23) :: ((19, 11, 22) :: ((19, 8, 21) :: ((19, 7, 20) :: ((11, 6, 18) :: ((11, 0, 12) :: ((12, 14, 17) :: ((12, 12, 16) :: ((12, 11, 15) :: ((12, 8, 14) :: ((12, 7, 13) :: []))))))))))))))))))) [] (sl) H) : ∃ v H2, F_World_init N 31 H = some (v, H2) ∧ SQ 11 11 [33, 27, 21, 14] A 11 37 ((31, 14, 36) :: ((31, 12, 35) :: ((31, 11, 34) :: ((31, 8, 33) :: ((31, 7, 32) :: ((18, 1, 25) :: ((25, 14, 30) :: ((25, 12, 29) :: ((25, 11, 28) :: ((25, 8, 27) :: ((25, 7, 26) :: ((18, 0, 19) :: ((19, 14, 24) :: ((19, 12, 23) :: ((19, 11, 22) :: ((19, 8, 21) :: ((19, 7, 20) :: ((11, 6, 18) :: ((11, 0, 12) :: ((12, 14, 17) :: ((12, 12, 16) :: ((12, 11, 15) :: ((12, 8, 14) :: ((12, 7, 13) :: [])))))))))))))))))))))))) [] (sl + 256 + 256 + 12288 + 1792 + 32) H2 := by
  unfold F_World_init
  refine q_ck (by decide) ?_
  refine q_ck (by decide) ?_
  refine q_nw h0 (by decide) (by decide +kernel) (by decide +kernel) (by decide +kernel) (by decide) (by decide) (fun K1 h1 => ?_)
  refine q_ck (SQ.get h1 (by decide) (by decide +kernel)) ?_
  refine q_sP h1 (by decide) (by decide +kernel) (fun K2 h2 => ?_)
  refine q_ck (by decide) ?_
  refine q_ck (by decide) ?_
  refine q_nw h2 (by decide) (by decide +kernel) (by decide +kernel) (by decide +kernel) (by decide) (by decide) (fun K3 h3 => ?_)
  refine q_sP h3 (by decide) (by decide +kernel) (fun K4 h4 => ?_)
  refine q_rf (t := 33) h4 (by decide +kernel) ?_
  obtain ⟨F2, f1, f2, f3⟩ := ev_fill (N := N) (v := -1) (by omega) (by decide) (SQ.get h4 (a := 33) (s := (100, 256)) (by decide) (by decide +kernel))
  rw [bC_t f1]
  have h5 := SQ.xx h4 f2 (by decide) (by decide +kernel) (fun z => absurd z (by decide))
  refine q_ck (by decide) ?_
  refine q_ck (by decide) ?_
  refine q_nw h5 (by decide) (by decide +kernel) (by decide +kernel) (by decide +kernel) (by decide) (by decide) (fun K6 h6 => ?_)
  refine q_sP h6 (by decide) (by decide +kernel) (fun K7 h7 => ?_)
  refine q_ck (by decide) ?_
  refine q_ck (by decide) ?_
  refine q_nw h7 (by decide) (by decide +kernel) (by decide +kernel) (by decide +kernel) (by decide) (by decide) (fun K8 h8 => ?_)
  refine q_sP h8 (by decide) (by decide +kernel) (fun K9 h9 => ?_)
  refine q_ck (by decide) ?_
  refine q_ck (by decide) ?_
  refine q_nw h9 (by decide) (by decide +kernel) (by decide +kernel) (by decide +kernel) (by decide) (by decide) (fun K10 h10 => ?_)
  refine q_sP h10 (by decide) (by decide +kernel) (fun K11 h11 => ?_)
  exact q_end (h11)
set_option maxRecDepth 20000 in
set_option maxHeartbeats 4000000 in
theorem ci_37 {N : Nat} (hN : 300 ≤ N) (h0 : SQ 11 11 [33, 27, 21, 14] A 11 38 ((18, 2, 31) :: ((31, 14, 36) :: ((31, 12, 35) :: ((31, 11, 34) :: ((31, 8, 33) :: ((31, 7, 32) :: ((18, 1, 25) :: ((25, 14, 30) :: ((25, 12, 29) :: ((25, 11, 28) :: ((25, 8, 27) :: ((25, 7, 26) :: ((18, 0, 19) :: ((19, 14, 24) :: ((19, 12, 23) :: ((19, 11, 22) :: ((19, 8, 21) :: ((19, 7, 20) :: ((11, 6, 18) :: ((11, 0, 12) :: ((12, 14, 17) :: ((12, 12, 16) :: ((12, 11, 15) :: ((12, 8, 14) :: ((12, 7, 13) :: []))))))))))))))))))))))))) [] (sl) H) : ∃ v H2, F_World_init N 37 H = some (v, H2) ∧ SQ 11 11 [39, 33, 27, 21, 14] A 11 43 ((37, 14, 42) :: ((37, 12, 41) :: ((37, 11, 40) :: ((37, 8, 39) :: ((37, 7, 38) :: ((18, 2, 31) :: ((31, 14, 36) :: ((31, 12, 35) :: ((31, 11, 34) :: ((31, 8, 33) :: ((31, 7, 32) :: ((18, 1, 25) :: ((25, 14, 30) :: ((25, 12, 29) :: ((25, 11, 28) :: ((25, 8, 27) :: ((25, 7, 26) :: ((18, 0, 19) :: ((19, 14, 24) :: ((19, 12, 23) :: ((19, 11, 22) :: ((19, 8, 21) :: ((19, 7, 20) :: ((11, 6, 18) :: ((11, 0, 12) :: ((12, 14, 17) :: ((12, 12, 16) :: ((12, 11, 15) :: ((12, 8, 14) :: ((12, 7, 13) :: [])))))))))))))))))))))))))))))) [] (sl + 256 + 256 + 12288 + 1792 + 32) H2 := by
  unfold F_World_init
  refine q_ck (by decide) ?_
  refine q_ck (by decide) ?_
  refine q_nw h0 (by decide) (by decide +kernel) (by decide +kernel) (by decide +kernel) (by decide) (by decide) (fun K1 h1 => ?_)
  refine q_ck (SQ.get h1 (by decide) (by decide +kernel)) ?_
  refine q_sP h1 (by decide) (by decide +kernel) (fun K2 h2 => ?_)
  refine q_ck (by decide) ?_
  refine q_ck (by decide) ?_
  refine q_nw h2 (by decide) (by decide +kernel) (by decide +kernel) (by decide +kernel) (by decide) (by decide) (fun K3 h3 => ?_)
  refine q_sP h3 (by decide) (by decide +kernel) (fun K4 h4 => ?_)
  refine q_rf (t := 39) h4 (by decide +kernel) ?_
  obtain ⟨F2, f1, f2, f3⟩ := ev_fill (N := N) (v := -1) (by omega) (by decide) (SQ.get h4 (a := 39) (s := (100, 256)) (by decide) (by decide +kernel))
  rw [bC_t f1]
  have h5 := SQ.xx h4 f2 (by decide) (by decide +kernel) (fun z => absurd z (by decide))
  refine q_ck (by decide) ?_
  refine q_ck (by decide) ?_
  refine q_nw h5 (by decide) (by decide +kernel) (by decide +kernel) (by decide +kernel) (by decide) (by decide) (fun K6 h6 => ?_)
  refine q_sP h6 (by decide) (by decide +kernel) (fun K7 h7 => ?_)
  refine q_ck (by decide) ?_
  refine q_ck (by decide) ?_
  refine q_nw h7 (by decide) (by decide +kernel) (by decide +kernel) (by decide +kernel) (by decide) (by decide) (fun K8 h8 => ?_)
  refine q_sP h8 (by decide) (by decide +kernel) (fun K9 h9 => ?_)
  refine q_ck (by decide) ?_
  refine q_ck (by decide) ?_
  refine q_nw h9 (by decide) (by decide +kernel) (by decide +kernel) (by decide +kernel) (by decide) (by decide) (fun K10 h10 => ?_)
  refine q_sP h10 (by decide) (by decide +kernel) (fun K11 h11 => ?_)
  exact q_end (h11)
set_option maxRecDepth 20000 in
set_option maxHeartbeats 4000000 in
theorem ci_43 {N : Nat} (hN : 300 ≤ N) (h0 : SQ 11 11 [39, 33, 27, 21, 14] A 11 44 ((18, 3, 37) :: ((37, 14, 42) :: ((37, 12, 41) :: ((37, 11, 40) :: ((37, 8, 39) :: ((37, 7, 38) :: ((18, 2, 31) :: ((31, 14, 36) :: ((31, 12, 35) :: ((31, 11, 34) :: ((31, 8, 33) :: ((31, 7, 32) :: ((18, 1, 25) :: ((25, 14, 30) :: ((25, 12, 29) :: ((25, 11, 28) :: ((25, 8, 27) :: ((25, 7, 26) :: ((18, 0, 19) :: ((19, 14, 24) :: ((19, 12, 23) :: ((19, 11, 22) :: ((19, 8, 21) :: ((19, 7, 20) :: ((11, 6, 18) :: ((11, 0, 12) :: ((12, 14, 17) :: ((12, 12, 16) :: ((12, 11, 15) :: ((12, 8, 14) :: ((12, 7, 13) :: []))))))))))))))))))))))))))))))) [] (sl) H) : ∃ v H2, F_World_init N 43 H = some (v, H2) ∧ SQ 11 11 [45, 39, 33, 27, 21, 14] A 11 49 ((43, 14, 48) :: ((43, 12, 47) :: ((43, 11, 46) :: ((43, 8, 45) :: ((43, 7, 44) :: ((18, 3, 37) :: ((37, 14, 42) :: ((37, 12, 41) :: ((37, 11, 40) :: ((37, 8, 39) :: ((37, 7, 38) :: ((18, 2, 31) :: ((31, 14, 36) :: ((31, 12, 35) :: ((31, 11, 34) :: ((31, 8, 33) :: ((31, 7, 32) :: ((18, 1, 25) :: ((25, 14, 30) :: ((25, 12, 29) :: ((25, 11, 28) :: ((25, 8, 27) :: ((25, 7, 26) :: ((18, 0, 19) :: ((19, 14, 24) :: ((19, 12, 23) :: ((19, 11, 22) :: ((19, 8, 21) :: ((19, 7, 20) :: ((11, 6, 18) :: ((11, 0, 12) :: ((12, 14, 17) :: ((12, 12, 16) :: ((12, 11, 15) :: ((12, 8, 14) :: ((12, 7, 13) :: [])))))))))))))))))))))))))))))))))))) [] (sl + 256 + 256 + 12288 + 1792 + 32) H2 := by
  unfold F_World_init
  refine q_ck (by decide) ?_
  refine q_ck (by decide) ?_
  refine q_nw h0 (by decide) (by decide +kernel) (by decide +kernel) (by decide +kernel) (by decide) (by decide) (fun K1 h1 => ?_)
  refine q_ck (SQ.get h1 (by decide) (by decide +kernel)) ?_
  refine q_sP h1 (by decide) (by decide +kernel) (fun K2 h2 => ?_)
  refine q_ck (by decide) ?_
  refine q_ck (by decide) ?_
  refine q_nw h2 (by decide) (by decide +kernel) (by decide +kernel) (by decide +kernel) (by decide) (by decide) (fun K3 h3 => ?_)
  refine q_sP h3 (by decide) (by decide +kernel) (fun K4 h4 => ?_)
  refine q_rf (t := 45) h4 (by decide +kernel) ?_
  obtain ⟨F2, f1, f2, f3⟩ := ev_fill (N := N) (v := -1) (by omega) (by decide) (SQ.get h4 (a := 45) (s := (100, 256)) (by decide) (by decide +kernel))
  rw [bC_t f1]
  have h5 := SQ.xx h4 f2 (by decide) (by decide +kernel) (fun z => absurd z (by decide))
  refine q_ck (by decide) ?_
  refine q_ck (by decide) ?_
  refine q_nw h5 (by decide) (by decide +kernel) (by decide +kernel) (by decide +kernel) (by decide) (by decide) (fun K6 h6 => ?_)
  refine q_sP h6 (by decide) (by decide +kernel) (fun K7 h7 => ?_)
  refine q_ck (by decide) ?_
  refine q_ck (by decide) ?_
  refine q_nw h7 (by decide) (by decide +kernel) (by decide +kernel) (by decide +kernel) (by decide) (by decide) (fun K8 h8 => ?_)
  refine q_sP h8 (by decide) (by decide +kernel) (fun K9 h9 => ?_)
  refine q_ck (by decide) ?_
  refine q_ck (by decide) ?_
  refine q_nw h9 (by decide) (by decide +kernel) (by decide +kernel) (by decide +kernel) (by decide) (by decide) (fun K10 h10 => ?_)
  refine q_sP h10 (by decide) (by decide +kernel) (fun K11 h11 => ?_)
  exact q_end (h11)
set_option maxRecDepth 20000 in
set_option maxHeartbeats 4000000 in
theorem ci_49 {N : Nat} (hN : 300 ≤ N) (h0 : SQ 11 11 [45, 39, 33, 27, 21, 14] A 11 50 ((18, 4, 43) :: ((43, 14, 48) :: ((43, 12, 47) :: ((43, 11, 46) :: ((43, 8, 45) :: ((43, 7, 44) :: ((18, 3, 37) :: ((37, 14, 42) :: ((37, 12, 41) :: ((37, 11, 40) :: ((37, 8, 39) :: ((37, 7, 38) :: ((18, 2, 31) :: ((31, 14, 36) :: ((31, 12, 35) :: ((31, 11, 34) :: ((31, 8, 33) :: ((31, 7, 32) :: ((18, 1, 25) :: ((25, 14, 30) :: ((25, 12, 29) :: ((25, 11, 28) :: ((25, 8, 27) :: ((25, 7, 26) :: ((18, 0, 19) :: ((19, 14, 24) :: ((19, 12, 23) :: ((19, 11, 22) :: ((19, 8, 21) :: ((19, 7, 20) :: ((11, 6, 18) :: ((11, 0, 12) :: ((12, 14, 17) :: ((12, 12, 16) :: ((12, 11, 15) :: ((12, 8, 14) :: ((12, 7, 13) :: []))))))))))))))))))))))))))))))))))))) [] (sl) H) : ∃ v H2, F_World_init N 49 H = some (v, H2) ∧ SQ 11 11 [51, 45, 39, 33, 27, 21, 14] A 11 55 ((49, 14, 54) :: ((49, 12, 53) :: ((49, 11, 52) :: ((49, 8, 51) :: ((49, 7, 50) :: ((18, 4, 43) :: ((43, 14, 48) :: ((43, 12, 47) :: ((43, 11, 46) :: ((43, 8, 45) :: ((43, 7, 44) :: ((18, 3, 37) :: ((37, 14, 42) :: ((37, 12, 41) :: ((37, 11, 40) :: ((37, 8, 39) :: ((37, 7, 38) :: ((18, 2, 31) :: ((31, 14, 36) :: ((31, 12, 35) :: ((31, 11, 34) :: ((31, 8, 33) :: ((31, 7, 32) :: ((18, 1, 25) :: ((25, 14, 30) :: ((25, 12, 29) :: ((25, 11, 28) :: ((25, 8, 27) :: ((25, 7, 26) :: ((18, 0, 19) :: ((19, 14, 24) :: ((19, 12, 23) :: ((19, 11, 22) :: ((19, 8, 21) :: ((19, 7, 20) :: ((11, 6, 18) :: ((11, 0, 12) :: ((12, 14, 17) :: ((12, 12, 16) :: ((12, 11, 15) :: ((12, 8, 14) :: ((12, 7, 13) :: [])))))))))))))))))))))))))))))))))))))))))) [] (sl + 256 + 256 + 12288 + 1792 + 32) H2 := by
  unfold F_World_init
  refine q_ck (by decide) ?_
  refine q_ck (by decide) ?_
  refine q_nw h0 (by decide) (by decide +kernel) (by decide +kernel) (by decide +kernel) (by decide) (by decide) (fun K1 h1 => ?_)
  refine q_ck (SQ.get h1 (by decide) (by decide +kernel)) ?_
  refine q_sP h1 (by decide) (by decide +kernel) (fun K2 h2 => ?_)
  refine q_ck (by decide) ?_
  refine q_ck (by decide) ?_
  refine q_nw h2 (by decide) (by decide +kernel) (by decide +kernel) (by decide +kernel) (by decide) (by decide) (fun K3 h3 => ?_)
  refine q_sP h3 (by decide) (by decide +kernel) (fun K4 h4 => ?_)
  refine q_rf (t := 51) h4 (by decide +kernel) ?_
  obtain ⟨F2, f1, f2, f3⟩ := ev_fill (N := N) (v := -1) (by omega) (by decide) (SQ.get h4 (a := 51) (s := (100, 256)) (by decide) (by decide +kernel))
  rw [bC_t f1]
  have h5 := SQ.xx h4 f2 (by decide) (by decide +kernel) (fun z => absurd z (by decide))
  refine q_ck (by decide) ?_
  refine q_ck (by decide) ?_
  refine q_nw h5 (by decide) (by decide +kernel) (by decide +kernel) (by decide +kernel) (by decide) (by decide) (fun K6 h6 => ?_)
  refine q_sP h6 (by decide) (by decide +kernel) (fun K7 h7 => ?_)
  refine q_ck (by decide) ?_
  refine q_ck (by decide) ?_
  refine q_nw h7 (by decide) (by decide +kernel) (by decide +kernel) (by decide +kernel) (by decide) (by decide) (fun K8 h8 => ?_)
  refine q_sP h8 (by decide) (by decide +kernel) (fun K9 h9 => ?_)
  refine q_ck (by decide) ?_
  refine q_ck (by decide) ?_
  refine q_nw h9 (by decide) (by decide +kernel) (by decide +kernel) (by decide +kernel) (by decide) (by decide) (fun K10 h10 => ?_)
  refine q_sP h10 (by decide) (by decide +kernel) (fun K11 h11 => ?_)
  exact q_end (h11)
set_option maxRecDepth 20000 in
set_option maxHeartbeats 4000000 in
theorem ci_55 {N : Nat} (hN : 300 ≤ N) (h0 : SQ 11 11 [51, 45, 39, 33, 27, 21, 14] A 11 56 ((18, 5, 49) :: ((49, 14, 54) :: ((49, 12, 53) :: ((49, 11, 52) :: ((49, 8, 51) :: ((49, 7, 50) :: ((18, 4, 43) :: ((43, 14, 48) :: ((43, 12, 47) :: ((43, 11, 46) :: ((43, 8, 45) :: ((43, 7, 44) :: ((18, 3, 37) :: ((37, 14, 42) :: ((37, 12, 41) :: ((37, 11, 40) :: ((37, 8, 39) :: ((37, 7, 38) :: ((18, 2, 31) :: ((31, 14, 36) :: ((31, 12, 35) :: ((31, 11, 34) :: ((31, 8, 33) :: ((31, 7, 32) :: ((18, 1, 25) :: ((25, 14, 30) :: ((25, 12, 29) :: ((25, 11, 28) :: ((25, 8, 27) :: ((25, 7, 26) :: ((18, 0, 19) :: ((19, 14, 24) :: ((19, 12, 23) :: ((19, 11, 22) :: ((19, 8, 21) :: ((19, 7, 20) :: ((11, 6, 18) :: ((11, 0, 12) :: ((12, 14, 17) :: ((12, 12, 16) :: ((12, 11, 15) :: ((12, 8, 14) :: ((12, 7, 13) :: []))))))))))))))))))))))))))))))))))))))))))) [] (sl) H) : ∃ v H2, F_World_init N 55 H = some (v, H2) ∧ SQ 11 11 [57, 51, 45, 39, 33, 27, 21, 14] A 11 61 ((55, 14, 60) :: ((55, 12, 59) :: ((55, 11, 58) :: ((55, 8, 57) :: ((55, 7, 56) :: ((18, 5, 49) :: ((49, 14, 54) :: ((49, 12, 53) :: ((49, 11, 52) :: ((49, 8, 51) :: ((49, 7, 50) :: ((18, 4, 43) :: ((43, 14, 48) :: ((43, 12, 47) :: ((43, 11, 46) :: ((43, 8, 45) :: ((43, 7, 44) :: ((18, 3, 37) :: ((37, 14, 42) :: ((37, 12, 41) :: ((37, 11, 40) :: ((37, 8, 39) :: ((37, 7, 38) :: ((18, 2, 31) :: ((31, 14, 36) :: ((31, 12, 35) :: ((31, 11, 34) :: ((31, 8, 33) :: ((31, 7, 32) :: ((18, 1, 25) :: ((25, 14, 30) :: ((25, 12, 29) :: ((25, 11, 28) :: ((25, 8, 27) :: ((25, 7, 26) :: ((18, 0, 19) :: ((19, 14, 24) :: ((19, 12, 23) :: ((19, 11, 22) :: ((19, 8, 21) :: ((19, 7, 20) :: ((11, 6, 18) :: ((11, 0, 12) :: ((12, 14, 17) :: ((12, 12, 16) :: ((12, 11, 15) :: ((12, 8, 14) :: ((12, 7, 13) :: [])))))))))))))))))))))))))))))))))))))))))))))))) [] (sl + 256 + 256 + 12288 + 1792 + 32) H2 := by
  unfold F_World_init
  refine q_ck (by decide) ?_
  refine q_ck (by decide) ?_
  refine q_nw h0 (by decide) (by decide +kernel) (by decide +kernel) (by decide +kernel) (by decide) (by decide) (fun K1 h1 => ?_)
  refine q_ck (SQ.get h1 (by decide) (by decide +kernel)) ?_
  refine q_sP h1 (by decide) (by decide +kernel) (fun K2 h2 => ?_)
  refine q_ck (by decide) ?_
  refine q_ck (by decide) ?_
  refine q_nw h2 (by decide) (by decide +kernel) (by decide +kernel) (by decide +kernel) (by decide) (by decide) (fun K3 h3 => ?_)
  refine q_sP h3 (by decide) (by decide +kernel) (fun K4 h4 => ?_)
  refine q_rf (t := 57) h4 (by decide +kernel) ?_
  obtain ⟨F2, f1, f2, f3⟩ := ev_fill (N := N) (v := -1) (by omega) (by decide) (SQ.get h4 (a := 57) (s := (100, 256)) (by decide) (by decide +kernel))
  rw [bC_t f1]
  have h5 := SQ.xx h4 f2 (by decide) (by decide +kernel) (fun z => absurd z (by decide))
  refine q_ck (by decide) ?_
  refine q_ck (by decide) ?_
  refine q_nw h5 (by decide) (by decide +kernel) (by decide +kernel) (by decide +kernel) (by decide) (by decide) (fun K6 h6 => ?_)
  refine q_sP h6 (by decide) (by decide +kernel) (fun K7 h7 => ?_)
  refine q_ck (by decide) ?_
  refine q_ck (by decide) ?_
  refine q_nw h7 (by decide) (by decide +kernel) (by decide +kernel) (by decide +kernel) (by decide) (by decide) (fun K8 h8 => ?_)
  refine q_sP h8 (by decide) (by decide +kernel) (fun K9 h9 => ?_)
  refine q_ck (by decide) ?_
  refine q_ck (by decide) ?_
  refine q_nw h9 (by decide) (by decide +kernel) (by decide +kernel) (by decide +kernel) (by decide) (by decide) (fun K10 h10 => ?_)
  refine q_sP h10 (by decide) (by decide +kernel) (fun K11 h11 => ?_)
  exact q_end (h11)
set_option maxRecDepth 20000 in
set_option maxHeartbeats 4000000 in
theorem ci_61 {N : Nat} (hN : 300 ≤ N) (h0 : SQ 11 11 [57, 51, 45, 39, 33, 27, 21, 14] A 11 62 ((18, 6, 55) :: ((55, 14, 60) :: ((55, 12, 59) :: ((55, 11, 58) :: ((55, 8, 57) :: ((55, 7, 56) :: ((18, 5, 49) :: ((49, 14, 54) :: ((49, 12, 53) :: ((49, 11, 52) :: ((49, 8, 51) :: ((49, 7, 50) :: ((18, 4, 43) :: ((43, 14, 48) :: ((43, 12, 47) :: ((43, 11, 46) :: ((43, 8, 45) :: ((43, 7, 44) :: ((18, 3, 37) :: ((37, 14, 42) :: ((37, 12, 41) :: ((37, 11, 40) :: ((37, 8, 39) :: ((37, 7, 38) :: ((18, 2, 31) :: ((31, 14, 36) :: ((31, 12, 35) :: ((31, 11, 34) :: ((31, 8, 33) :: ((31, 7, 32) :: ((18, 1, 25) :: ((25, 14, 30) :: ((25, 12, 29) :: ((25, 11, 28) :: ((25, 8, 27) :: ((25, 7, 26) :: ((18, 0, 19) :: ((19, 14, 24) :: ((19, 12, 23) :: ((19, 11, 22) :: ((19, 8, 21) :: ((19, 7, 20) :: ((11, 6, 18) :: ((11, 0, 12) :: ((12, 14, 17) :: ((12, 12, 16) :: ((12, 11, 15) :: ((12, 8, 14) :: ((12, 7, 13) :: []))))))))))))))))))))))))))))))))))))))))))))))))) [] (sl) H) : ∃ v H2, F_World_init N 61 H = some (v, H2) ∧ SQ 11 11 [63, 57, 51, 45, 39, 33, 27, 21, 14] A 11 67 ((61, 14, 66) :: ((61, 12, 65) :: ((61, 11, 64) :: ((61, 8, 63) :: ((61, 7, 62) :: ((18, 6, 55) :: ((55, 14, 60) :: ((55, 12, 59) :: ((55, 11, 58) :: ((55, 8, 57) :: ((55, 7, 56) :: ((18, 5, 49) :: ((49, 14, 54) :: ((49, 12, 53) :: ((49, 11, 52) :: ((49, 8, 51) :: ((49, 7, 50) :: ((18, 4, 43) :: ((43, 14, 48) :: ((43, 12, 47) :: ((43, 11, 46) :: ((43, 8, 45) :: ((43, 7, 44) :: ((18, 3, 37) :: ((37, 14, 42) :: ((37, 12, 41) :: ((37, 11, 40) :: ((37, 8, 39) :: ((37, 7, 38) :: ((18, 2, 31) :: ((31, 14, 36) :: ((31, 12, 35) :: ((31, 11, 34) :: ((31, 8, 33) :: ((31, 7, 32) :: ((18, 1, 25) :: ((25, 14, 30) :: ((25, 12, 29) :: ((25, 11, 28) :: ((25, 8, 27) :: ((25, 7, 26) :: ((18, 0, 19) :: ((19, 14, 24) :: ((19, 12, 23) :: ((19, 11, 22) :: ((19, 8, 21) :: ((19, 7, 20) :: ((11, 6, 18) :: ((11, 0, 12) :: ((12, 14, 17) :: ((12, 12, 16) :: ((12, 11, 15) :: ((12, 8, 14) :: ((12, 7, 13) :: [])))))))))))))))))))))))))))))))))))))))))))))))))))))) [] (sl + 256 + 256 + 12288 + 1792 + 32) H2 := by
  unfold F_World_init
  refine q_ck (by decide) ?_
  refine q_ck (by decide) ?_
  refine q_nw h0 (by decide) (by decide +kernel) (by decide +kernel) (by decide +kernel) (by decide) (by decide) (fun K1 h1 => ?_)
  refine q_ck (SQ.get h1 (by decide) (by decide +kernel)) ?_
  refine q_sP h1 (by decide) (by decide +kernel) (fun K2 h2 => ?_)
  refine q_ck (by decide) ?_
  refine q_ck (by decide) ?_
  refine q_nw h2 (by decide) (by decide +kernel) (by decide +kernel) (by decide +kernel) (by decide) (by decide) (fun K3 h3 => ?_)
  refine q_sP h3 (by decide) (by decide +kernel) (fun K4 h4 => ?_)
  refine q_rf (t := 63) h4 (by decide +kernel) ?_
  obtain ⟨F2, f1, f2, f3⟩ := ev_fill (N := N) (v := -1) (by omega) (by decide) (SQ.get h4 (a := 63) (s := (100, 256)) (by decide) (by decide +kernel))
  rw [bC_t f1]
  have h5 := SQ.xx h4 f2 (by decide) (by decide +kernel) (fun z => absurd z (by decide))
  refine q_ck (by decide) ?_
  refine q_ck (by decide) ?_
  refine q_nw h5 (by decide) (by decide +kernel) (by decide +kernel) (by decide +kernel) (by decide) (by decide) (fun K6 h6 => ?_)
  refine q_sP h6 (by decide) (by decide +kernel) (fun K7 h7 => ?_)
  refine q_ck (by decide) ?_
  refine q_ck (by decide) ?_
  refine q_nw h7 (by decide) (by decide +kernel) (by decide +kernel) (by decide +kernel) (by decide) (by decide) (fun K8 h8 => ?_)
  refine q_sP h8 (by decide) (by decide +kernel) (fun K9 h9 => ?_)
  refine q_ck (by decide) ?_
  refine q_ck (by decide) ?_
  refine q_nw h9 (by decide) (by decide +kernel) (by decide +kernel) (by decide +kernel) (by decide) (by decide) (fun K10 h10 => ?_)
  refine q_sP h10 (by decide) (by decide +kernel) (fun K11 h11 => ?_)
  exact q_end (h11)
set_option maxRecDepth 20000 in
set_option maxHeartbeats 4000000 in
theorem ci_67 {N : Nat} (hN : 300 ≤ N) (h0 : SQ 11 11 [63, 57, 51, 45, 39, 33, 27, 21, 14] A 11 68 ((18, 7, 61) :: ((61, 14, 66) :: ((61, 12, 65) :: ((61, 11, 64) :: ((61, 8, 63) :: ((61, 7, 62) :: ((18, 6, 55) :: ((55, 14, 60) :: ((55, 12, 59) :: ((55, 11, 58) :: ((55, 8, 57) :: ((55, 7, 56) :: ((18, 5, 49) :: ((49, 14, 54) :: ((49, 12, 53) :: ((49, 11, 52) :: ((49, 8, 51) :: ((49, 7, 50) :: ((18, 4, 43) :: ((43, 14, 48) :: ((43, 12, 47) :: ((43, 11, 46) :: ((43, 8, 45) :: ((43, 7, 44) :: ((18, 3, 37) :: ((37, 14, 42) :: ((37, 12, 41) :: ((37, 11, 40) :: ((37, 8, 39) :: ((37, 7, 38) :: ((18, 2, 31) :: ((31, 14, 36) :: ((31, 12, 35) :: ((31, 11, 34) :: ((31, 8, 33) :: ((31, 7, 32) :: ((18, 1, 25) :: ((25, 14, 30) :: ((25, 12, 29) :: ((25, 11, 28) :: ((25, 8, 27) :: ((25, 7, 26) :: ((18, 0, 19) :: ((19, 14, 24) :: ((19, 12, 23) :: ((19, 11, 22) :: ((19, 8, 21) :: ((19, 7, 20) :: ((11, 6, 18) :: ((11, 0, 12) :: ((12, 14, 17) :: ((12, 12, 16) :: ((12, 11, 15) :: ((12, 8, 14) :: ((12, 7, 13) :: []))))))))))))))))))))))))))))))))))))))))))))))))))))))) [] (sl) H) : ∃ v H2, F_World_init N 67 H = some (v, H2) ∧ SQ 11 11 [69, 63, 57, 51, 45, 39, 33, 27, 21, 14] A 11 73 ((67, 14, 72) :: ((67, 12, 71) :: ((67, 11, 70) :: ((67, 8, 69) :: ((67, 7, 68) :: ((18, 7, 61) :: ((61, 14, 66) :: ((61, 12, 65) :: ((61, 11, 64) :: ((61, 8, 63) :: ((61, 7, 62) :: ((18, 6, 55) :: ((55, 14, 60) :: ((55, 12, 59) :: ((55, 11, 58) :: ((55, 8, 57) :: ((55, 7, 56) :: ((18, 5, 49) :: ((49, 14, 54) :: ((49, 12, 53) :: ((49, 11, 52) :: ((49, 8, 51) :: ((49, 7, 50) :: ((18, 4, 43) :: ((43, 14, 48) :: ((43, 12, 47) :: ((43, 11, 46) :: ((43, 8, 45) :: ((43, 7, 44) :: ((18, 3, 37) :: ((37, 14, 42) :: ((37, 12, 41) :: ((37, 11, 40) :: ((37, 8, 39) :: ((37, 7, 38) :: ((18, 2, 31) :: ((31, 14, 36) :: ((31, 12, 35) :: ((31, 11, 34) :: ((31, 8, 33) :: ((31, 7, 32) :: ((18, 1, 25) :: ((25, 14, 30) :: ((25, 12, 29) :: ((25, 11, 28) :: ((25, 8, 27) :: ((25, 7, 26) :: ((18, 0, 19) :: ((19, 14, 24) :: ((19, 12, 23) :: ((19, 11, 22) :: ((19, 8, 21) :: ((19, 7, 20) :: ((11, 6, 18) :: ((11, 0, 12) :: ((12, 14, 17) :: ((12, 12, 16) :: ((12, 11, 15) :: ((12, 8, 14) :: ((12, 7, 13) :: [])))))))))))))))))))))))))))))))))))))))))))))))))))))))))))) [] (sl + 256 + 256 + 12288 + 1792 + 32) H2 := by
  unfold F_World_init
  refine q_ck (by decide) ?_
  refine q_ck (by decide) ?_
  refine q_nw h0 (by decide) (by decide +kernel) (by decide +kernel) (by decide +kernel) (by decide) (by decide) (fun K1 h1 => ?_)
  refine q_ck (SQ.get h1 (by decide) (by decide +kernel)) ?_
  refine q_sP h1 (by decide) (by decide +kernel) (fun K2 h2 => ?_)
  refine q_ck (by decide) ?_
  refine q_ck (by decide) ?_
  refine q_nw h2 (by decide) (by decide +kernel) (by decide +kernel) (by decide +kernel) (by decide) (by decide) (fun K3 h3 => ?_)
  refine q_sP h3 (by decide) (by decide +kernel) (fun K4 h4 => ?_)
  refine q_rf (t := 69) h4 (by decide +kernel) ?_
  obtain ⟨F2, f1, f2, f3⟩ := ev_fill (N := N) (v := -1) (by omega) (by decide) (SQ.get h4 (a := 69) (s := (100, 256)) (by decide) (by decide +kernel))
  rw [bC_t f1]
  have h5 := SQ.xx h4 f2 (by decide) (by decide +kernel) (fun z => absurd z (by decide))
  refine q_ck (by decide) ?_
  refine q_ck (by decide) ?_
  refine q_nw h5 (by decide) (by decide +kernel) (by decide +kernel) (by decide +kernel) (by decide) (by decide) (fun K6 h6 => ?_)
  refine q_sP h6 (by decide) (by decide +kernel) (fun K7 h7 => ?_)
  refine q_ck (by decide) ?_
  refine q_ck (by decide) ?_
  refine q_nw h7 (by decide) (by decide +kernel) (by decide +kernel) (by decide +kernel) (by decide) (by decide) (fun K8 h8 => ?_)
  refine q_sP h8 (by decide) (by decide +kernel) (fun K9 h9 => ?_)
  refine q_ck (by decide) ?_
  refine q_ck (by decide) ?_
  refine q_nw h9 (by decide) (by decide +kernel) (by decide +kernel) (by decide +kernel) (by decide) (by decide) (fun K10 h10 => ?_)
  refine q_sP h10 (by decide) (by decide +kernel) (fun K11 h11 => ?_)
  exact q_end (h11)
set_option maxRecDepth 20000 in
set_option maxHeartbeats 4000000 in
theorem ci_73 {N : Nat} (hN : 300 ≤ N) (h0 : SQ 11 11 [69, 63, 57, 51, 45, 39, 33, 27, 21, 14] A 11 74 ((18, 8, 67) :: ((67, 14, 72) :: ((67, 12, 71) :: ((67, 11, 70) :: ((67, 8, 69) :: ((67, 7, 68) :: ((18, 7, 61) :: ((61, 14, 66) :: ((61, 12, 65) :: ((61, 11, 64) :: ((61, 8, 63) :: ((61, 7, 62) :: ((18, 6, 55) :: ((55, 14, 60) :: ((55, 12, 59) :: ((55, 11, 58) :: ((55, 8, 57) :: ((55, 7, 56) :: ((18, 5, 49) :: ((49, 14, 54) :: ((49, 12, 53) :: ((49, 11, 52) :: ((49, 8, 51) :: ((49, 7, 50) :: ((18, 4, 43) :: ((43, 14, 48) :: ((43, 12, 47) :: ((43, 11, 46) :: ((43, 8, 45) :: ((43, 7, 44) :: ((18, 3, 37) :: ((37, 14, 42) :: ((37, 12, 41) :: ((37, 11, 40) :: ((37, 8, 39) :: ((37, 7, 38) :: ((18, 2, 31) :: ((31, 14, 36) :: ((31, 12, 35) :: ((31, 11, 34) :: ((31, 8, 33) :: ((31, 7, 32) :: ((18, 1, 25) :: ((25, 14, 30) :: ((25, 12, 29) :: ((25, 11, 28) :: ((25, 8, 27) :: ((25, 7, 26) :: ((18, 0, 19) :: ((19, 14, 24) :: ((19, 12, 23) :: ((19, 11, 22) :: ((19, 8, 21) :: ((19, 7, 20) :: ((11, 6, 18) :: ((11, 0, 12) :: ((12, 14, 17) :: ((12, 12, 16) :: ((12, 11, 15) :: ((12, 8, 14) :: ((12, 7, 13) :: []))))))))))))))))))))))))))))))))))))))))))))))))))))))))))))) [] (sl) H) : ∃ v H2, F_World_init N 73 H = some (v, H2) ∧ SQ 11 11 [75, 69, 63, 57, 51, 45, 39, 33, 27, 21, 14] A 11 79 ((73, 14, 78) :: ((73, 12, 77) :: ((73, 11, 76) :: ((73, 8, 75) :: ((73, 7, 74) :: ((18, 8, 67) :: ((67, 14, 72) :: ((67, 12, 71) :: ((67, 11, 70) :: ((67, 8, 69) :: ((67, 7, 68) :: ((18, 7, 61) :: ((61, 14, 66) :: ((61, 12, 65) :: ((61, 11, 64) :: ((61, 8, 63) :: ((61, 7, 62) :: ((18, 6, 55) :: ((55, 14, 60) :: ((55, 12, 59) :: ((55, 11, 58) :: ((55, 8, 57) :: ((55, 7, 56) :: ((18, 5, 49) :: ((49, 14, 54) :: ((49, 12, 53) :: ((49, 11, 52) :: ((49, 8, 51) :: ((49, 7, 50) :: ((18, 4, 43) :: ((43, 14, 48) :: ((43, 12, 47) :: ((43, 11, 46) :: ((43, 8, 45) :: ((43, 7, 44) :: ((18, 3, 37) :: ((37, 14, 42) :: ((37, 12, 41) :: ((37, 11, 40) :: ((37, 8, 39) :: ((37, 7, 38) :: ((18, 2, 31) :: ((31, 14, 36) :: ((31, 12, 35) :: ((31, 11, 34) :: ((31, 8, 33) :: ((31, 7, 32) :: ((18, 1, 25) :: ((25, 14, 30) :: ((25, 12, 29) :: ((25, 11, 28) :: ((25, 8, 27) :: ((25, 7, 26) :: ((18, 0, 19) :: ((19, 14, 24) :: ((19, 12, 23) :: ((19, 11, 22) :: ((19, 8, 21) :: ((19, 7, 20) :: ((11, 6, 18) :: ((11, 0, 12) :: ((12, 14, 17) :: ((12, 12, 16) :: ((12, 11, 15) :: ((12, 8, 14) :: ((12, 7, 13) :: [])))))))))))))))))))))))))))))))))))))))))))))))))))))))))))))))))) [] (sl + 256 + 256 + 12288 + 1792 + 32) H2 := by
  unfold F_World_init
  refine q_ck (by decide) ?_
  refine q_ck (by decide) ?_
  refine q_nw h0 (by decide) (by decide +kernel) (by decide +kernel) (by decide +kernel) (by decide) (by decide) (fun K1 h1 => ?_)
  refine q_ck (SQ.get h1 (by decide) (by decide +kernel)) ?_
  refine q_sP h1 (by decide) (by decide +kernel) (fun K2 h2 => ?_)
  refine q_ck (by decide) ?_
  refine q_ck (by decide) ?_
  refine q_nw h2 (by decide) (by decide +kernel) (by decide +kernel) (by decide +kernel) (by decide) (by decide) (fun K3 h3 => ?_)
  refine q_sP h3 (by decide) (by decide +kernel) (fun K4 h4 => ?_)
  refine q_rf (t := 75) h4 (by decide +kernel) ?_
  obtain ⟨F2, f1, f2, f3⟩ := ev_fill (N := N) (v := -1) (by omega) (by decide) (SQ.get h4 (a := 75) (s := (100, 256)) (by decide) (by decide +kernel))
  rw [bC_t f1]
  have h5 := SQ.xx h4 f2 (by decide) (by decide +kernel) (fun z => absurd z (by decide))
  refine q_ck (by decide) ?_
  refine q_ck (by decide) ?_
  refine q_nw h5 (by decide) (by decide +kernel) (by decide +kernel) (by decide +kernel) (by decide) (by decide) (fun K6 h6 => ?_)
  refine q_sP h6 (by decide) (by decide +kernel) (fun K7 h7 => ?_)
  refine q_ck (by decide) ?_
  refine q_ck (by decide) ?_
  refine q_nw h7 (by decide) (by decide +kernel) (by decide +kernel) (by decide +kernel) (by decide) (by decide) (fun K8 h8 => ?_)
  refine q_sP h8 (by decide) (by decide +kernel) (fun K9 h9 => ?_)
  refine q_ck (by decide) ?_
  refine q_ck (by decide) ?_
  refine q_nw h9 (by decide) (by decide +kernel) (by decide +kernel) (by decide +kernel) (by decide) (by decide) (fun K10 h10 => ?_)
  refine q_sP h10 (by decide) (by decide +kernel) (fun K11 h11 => ?_)
  exact q_end (h11)
set_option maxRecDepth 20000 in
set_option maxHeartbeats 4000000 in
theorem ci_79 {N : Nat} (hN : 300 ≤ N) (h0 : SQ 11 11 [75, 69, 63, 57, 51, 45, 39, 33, 27, 21, 14] A 11 80 ((18, 9, 73) :: ((73, 14, 78) :: ((73, 12, 77) :: ((73, 11, 76) :: ((73, 8, 75) :: ((73, 7, 74) :: ((18, 8, 67) :: ((67, 14, 72) :: ((67, 12, 71) :: ((67, 11, 70) :: ((67, 8, 69) :: ((67, 7, 68) :: ((18, 7, 61) :: ((61, 14, 66) :: ((61, 12, 65) :: ((61, 11, 64) :: ((61, 8, 63) :: ((61, 7, 62) :: ((18, 6, 55) :: ((55, 14, 60) :: ((55, 12, 59) :: ((55, 11, 58) :: ((55, 8, 57) :: ((55, 7, 56) :: ((18, 5, 49) :: ((49, 14, 54) :: ((49, 12, 53) :: ((49, 11, 52) :: ((49, 8, 51) :: ((49, 7, 50) :: ((18, 4, 43) :: ((43, 14, 48) :: ((43, 12, 47) :: ((43, 11, 46) :: ((43, 8, 45) :: ((43, 7, 44) :: ((18, 3, 37) :: ((37, 14, 42) :: ((37, 12, 41) :: ((37, 11, 40) :: ((37, 8, 39) :: ((37, 7, 38) :: ((18, 2, 31) :: ((31, 14, 36) :: ((31, 12, 35) :: ((31, 11, 34) :: ((31, 8, 33) :: ((31, 7, 32) :: ((18, 1, 25) :: ((25, 14, 30) :: ((25, 12, 29) :: ((25, 11, 28) :: ((25, 8, 27) :: ((25, 7, 26) :: ((18, 0, 19) :: ((19, 14, 24) :: ((19, 12, 23) :: ((19, 11, 22) :: ((19, 8, 21) :: ((19, 7, 20) :: ((11, 6, 18) :: ((11, 0, 12) :: ((12, 14, 17) :: ((12, 12, 16) :: ((12, 11, 15) :: ((12, 8, 14) :: ((12, 7, 13) :: []))))))))))))))))))))))))))))))))))))))))))))))))))))))))))))))))))) [] (sl) H) : ∃ v H2, F_World_init N 79 H = some (v, H2) ∧ SQ 11 11 [81, 75, 69, 63, 57, 51, 45, 39, 33, 27, 21, 14] A 11 85 ((79, 14, 84) :: ((79, 12, 83) :: ((79, 11, 82) :: ((79, 8, 81) :: ((79, 7, 80) :: ((18, 9, 73) :: ((73, 14, 78) :: ((73, 12, 77) :: ((73, 11, 76) :: ((73, 8, 75) :: ((73, 7, 74) :: ((18, 8, 67) :: ((67, 14, 72) :: ((67, 12, 71) :: ((67, 11, 70) :: ((67, 8, 69) :: ((67, 7, 68) :: ((18, 7, 61) :: ((61, 14, 66) :: ((61, 12, 65) :: ((61, 11, 64) :: ((61, 8, 63) :: ((61, 7, 62) :: ((18, 6, 55) :: ((55, 14, 60) :: ((55, 12, 59) :: ((55, 11, 58) :: ((55, 8, 57) :: ((55, 7, 56) :: ((18, 5, 49) :: ((49, 14, 54) :: ((49, 12, 53) :: ((49, 11, 52) :: ((49, 8, 51) :: ((49, 7, 50) :: ((18, 4, 43) :: ((43, 14, 48) :: ((43, 12, 47) :: ((43, 11, 46) :: ((43, 8, 45) :: ((43, 7, 44) :: ((18, 3, 37) :: ((37, 14, 42) :: ((37, 12, 41) :: ((37, 11, 40) :: ((37, 8, 39) :: ((37, 7, 38) :: ((18, 2, 31) :: ((31, 14, 36) :: ((31, 12, 35) :: ((31, 11, 34) :: ((31, 8, 33) :: ((31, 7, 32) :: ((18, 1, 25) :: ((25, 14, 30) :: ((25, 12, 29) :: ((25, 11, 28) :: ((25, 8, 27) :: ((25, 7, 26) :: ((18, 0, 19) :: ((19, 14, 24) :: ((19, 12, 23) :: ((19, 11, 22) :: ((19, 8, 21) :: ((19, 7, 20) :: ((11, 6, 18) :: ((11, 0, 12) :: ((12, 14, 17) :: ((12, 12, 16) :: ((12, 11, 15) :: ((12, 8, 14) :: ((12, 7, 13) :: [])))))))))))))))))))))))))))))))))))))))))))))))))))))))))))))))))))))))) [] (sl + 256 + 256 + 12288 + 1792 + 32) H2 := by
  unfold F_World_init
  refine q_ck (by decide) ?_
  refine q_ck (by decide) ?_
  refine q_nw h0 (by decide) (by decide +kernel) (by decide +kernel) (by decide +kernel) (by decide) (by decide) (fun K1 h1 => ?_)
  refine q_ck (SQ.get h1 (by decide) (by decide +kernel)) ?_
  refine q_sP h1 (by decide) (by decide +kernel) (fun K2 h2 => ?_)
  refine q_ck (by decide) ?_
  refine q_ck (by decide) ?_
  refine q_nw h2 (by decide) (by decide +kernel) (by decide +kernel) (by decide +kernel) (by decide) (by decide) (fun K3 h3 => ?_)
  refine q_sP h3 (by decide) (by decide +kernel) (fun K4 h4 => ?_)
  refine q_rf (t := 81) h4 (by decide +kernel) ?_
  obtain ⟨F2, f1, f2, f3⟩ := ev_fill (N := N) (v := -1) (by omega) (by decide) (SQ.get h4 (a := 81) (s := (100, 256)) (by decide) (by decide +kernel))
  rw [bC_t f1]
  have h5 := SQ.xx h4 f2 (by decide) (by decide +kernel) (fun z => absurd z (by decide))
  refine q_ck (by decide) ?_
  refine q_ck (by decide) ?_
  refine q_nw h5 (by decide) (by decide +kernel) (by decide +kernel) (by decide +kernel) (by decide) (by decide) (fun K6 h6 => ?_)
  refine q_sP h6 (by decide) (by decide +kernel) (fun K7 h7 => ?_)
  refine q_ck (by decide) ?_
  refine q_ck (by decide) ?_
  refine q_nw h7 (by decide) (by decide +kernel) (by decide +kernel) (by decide +kernel) (by decide) (by decide) (fun K8 h8 => ?_)
  refine q_sP h8 (by decide) (by decide +kernel) (fun K9 h9 => ?_)
  refine q_ck (by decide) ?_
  refine q_ck (by decide) ?_
  refine q_nw h9 (by decide) (by decide +kernel) (by decide +kernel) (by decide +kernel) (by decide) (by decide) (fun K10 h10 => ?_)
  refine q_sP h10 (by decide) (by decide +kernel) (fun K11 h11 => ?_)
  exact q_end (h11)
set_option maxRecDepth 20000 in
set_option maxHeartbeats 4000000 in
theorem ci_85 {N : Nat} (hN : 300 ≤ N) (h0 : SQ 11 11 [81, 75, 69, 63, 57, 51, 45, 39, 33, 27, 21, 14] A 11 86 ((18, 10, 79) :: ((79, 14, 84) :: ((79, 12, 83) :: ((79, 11, 82) :: ((79, 8, 81) :: ((79, 7, 80) :: ((18, 9, 73) :: ((73, 14, 78) :: ((73, 12, 77) :: ((73, 11, 76) :: ((73, 8, 75) :: ((73, 7, 74) :: ((18, 8, 67) :: ((67, 14, 72) :: ((67, 12, 71) :: ((67, 11, 70) :: ((67, 8, 69) :: ((67, 7, 68) :: ((18, 7, 61) :: ((61, 14, 66) :: ((61, 12, 65) :: ((61, 11, 64) :: ((61, 8, 63) :: ((61, 7, 62) :: ((18, 6, 55) :: ((55, 14, 60) :: ((55, 12, 59) :: ((55, 11, 58) :: ((55, 8, 57) :: ((55, 7, 56) :: ((18, 5, 49) :: ((49, 14, 54) :: ((49, 12, 53) :: ((49, 11, 52) :: ((49, 8, 51) :: ((49, 7, 50) :: ((18, 4, 43) :: ((43, 14, 48) :: ((43, 12, 47) :: ((43, 11, 46) :: ((43, 8, 45) :: ((43, 7, 44) :: ((18, 3, 37) :: ((37, 14, 42) :: ((37, 12, 41) :: ((37, 11, 40) :: ((37, 8, 39) :: ((37, 7, 38) :: ((18, 2, 31) :: ((31, 14, 36) :: ((31, 12, 35) :: ((31, 11, 34) :: ((31, 8, 33) :: ((31, 7, 32) :: ((18, 1, 25) :: ((25, 14, 30) :: ((25, 12, 29) :: ((25, 11, 28) :: ((25, 8, 27) :: ((25, 7, 26) :: ((18, 0, 19) :: ((19, 14, 24) :: ((19, 12, 23) :: ((19, 11, 22) :: ((19, 8, 21) :: ((19, 7, 20) :: ((11, 6, 18) :: ((11, 0, 12) :: ((12, 14, 17) :: ((12, 12, 16) :: ((12, 11, 15) :: ((12, 8, 14) :: ((12, 7, 13) :: []))))))))))))))))))))))))))))))))))))))))))))))))))))))))))))))))))))))))) [] (sl) H) : ∃ v H2, F_World_init N 85 H = some (v, H2) ∧ SQ 11 11 [87, 81, 75, 69, 63, 57, 51, 45, 39, 33, 27, 21, 14] A 11 91 ((85, 14, 90) :: ((85, 12, 89) :: ((85, 11, 88) :: ((85, 8, 87) :: ((85, 7, 86) :: ((18, 10, 79) :: ((79, 14, 84) :: ((79, 12, 83) :: ((79, 11, 82) :: ((79, 8, 81) :: ((79, 7, 80) :: ((18, 9, 73) :: ((73, 14, 78) :: ((73, 12, 77) :: ((73, 11, 76) :: ((73, 8, 75) :: ((73, 7, 74) :: ((18, 8, 67) :: ((67, 14, 72) :: ((67, 12, 71) :: ((67, 11, 70) :: ((67, 8, 69) :: ((67, 7, 68) :: ((18, 7, 61) :: ((61, 14, 66) :: ((61, 12, 65) :: ((61, 11, 64) :: ((61, 8, 63) :: ((61, 7, 62) :: ((18, 6, 55) :: ((55, 14, 60) :: ((55, 12, 59) :: ((55, 11, 58) :: ((55, 8, 57) :: ((55, 7, 56) :: ((18, 5, 49) :: ((49, 14, 54) :: ((49, 12, 53) :: ((49, 11, 52) :: ((49, 8, 51) :: ((49, 7, 50) :: ((18, 4, 43) :: ((43, 14, 48) :: ((43, 12, 47) :: ((43, 11, 46) :: ((43, 8, 45) :: ((43, 7, 44) :: ((18, 3, 37) :: ((37, 14, 42) :: ((37, 12, 41) :: ((37, 11, 40) :: ((37, 8, 39) :: ((37, 7, 38) :: ((18, 2, 31) :: ((31, 14, 36) :: ((31, 12, 35) :: ((31, 11, 34) :: ((31, 8, 33) :: ((31, 7, 32) :: ((18, 1, 25) :: ((25, 14, 30) :: ((25, 12, 29) :: ((25, 11, 28) :: ((25, 8, 27) :: ((25, 7, 26) :: ((18, 0, 19) :: ((19, 14, 24) :: ((19, 12, 23) :: ((19, 11, 22) :: ((19, 8, 21) :: ((19, 7, 20) :: ((11, 6, 18) :: ((11, 0, 12) :: ((12, 14, 17) :: ((12, 12, 16) :: ((12, 11, 15) :: ((12, 8, 14) :: ((12, 7, 13) :: [])))))))))))))))))))))))))))))))))))))))))))))))))))))))))))))))))))))))))))))) [] (sl + 256 + 256 + 12288 + 1792 + 32) H2 := by
  unfold F_World_init
  refine q_ck (by decide) ?_
  refine q_ck (by decide) ?_
  refine q_nw h0 (by decide) (by decide +kernel) (by decide +kernel) (by decide +kernel) (by decide) (by decide) (fun K1 h1 => ?_)
  refine q_ck (SQ.get h1 (by decide) (by decide +kernel)) ?_
  refine q_sP h1 (by decide) (by decide +kernel) (fun K2 h2 => ?_)
  refine q_ck (by decide) ?_
  refine q_ck (by decide) ?_
  refine q_nw h2 (by decide) (by decide +kernel) (by decide +kernel) (by decide +kernel) (by decide) (by decide) (fun K3 h3 => ?_)
  refine q_sP h3 (by decide) (by decide +kernel) (fun K4 h4 => ?_)
  refine q_rf (t := 87) h4 (by decide +kernel) ?_
  obtain ⟨F2, f1, f2, f3⟩ := ev_fill (N := N) (v := -1) (by omega) (by decide) (SQ.get h4 (a := 87) (s := (100, 256)) (by decide) (by decide +kernel))
  rw [bC_t f1]
  have h5 := SQ.xx h4 f2 (by decide) (by decide +kernel) (fun z => absurd z (by decide))
  refine q_ck (by decide) ?_
  refine q_ck (by decide) ?_
  refine q_nw h5 (by decide) (by decide +kernel) (by decide +kernel) (by decide +kernel) (by decide) (by decide) (fun K6 h6 => ?_)
  refine q_sP h6 (by decide) (by decide +kernel) (fun K7 h7 => ?_)
  refine q_ck (by decide) ?_
  refine q_ck (by decide) ?_
  refine q_nw h7 (by decide) (by decide +kernel) (by decide +kernel) (by decide +kernel) (by decide) (by decide) (fun K8 h8 => ?_)
  refine q_sP h8 (by decide) (by decide +kernel) (fun K9 h9 => ?_)
  refine q_ck (by decide) ?_
  refine q_ck (by decide) ?_
  refine q_nw h9 (by decide) (by decide +kernel) (by decide +kernel) (by decide +kernel) (by decide) (by decide) (fun K10 h10 => ?_)
  refine q_sP h10 (by decide) (by decide +kernel) (fun K11 h11 => ?_)
  exact q_end (h11)
set_option maxRecDepth 20000 in
set_option maxHeartbeats 4000000 in
theorem ci_91 {N : Nat} (hN : 300 ≤ N) (h0 : SQ 11 11 [87, 81, 75, 69, 63, 57, 51, 45, 39, 33, 27, 21, 14] A 11 92 ((18, 11, 85) :: ((85, 14, 90) :: ((85, 12, 89) :: ((85, 11, 88) :: ((85, 8, 87) :: ((85, 7, 86) :: ((18, 10, 79) :: ((79, 14, 84) :: ((79, 12, 83) :: ((79, 11, 82) :: ((79, 8, 81) :: ((79, 7, 80) :: ((18, 9, 73) :: ((73, 14, 78) :: ((73, 12, 77) :: ((73, 11, 76) :: ((73, 8, 75) :: ((73, 7, 74) :: ((18, 8, 67) :: ((67, 14, 72) :: ((67, 12, 71) :: ((67, 11, 70) :: ((67, 8, 69) :: ((67, 7, 68) :: ((18, 7, 61) :: ((61, 14, 66) :: ((61, 12, 65) :: ((61, 11, 64) :: ((61, 8, 63) :: ((61, 7, 62) :: ((18, 6, 55) :: ((55, 14, 60) :: ((55, 12, 59) :: ((55, 11, 58) :: ((55, 8, 57) :: ((55, 7, 56) :: ((18, 5, 49) :: ((49, 14, 54) :: ((49, 12, 53) :: ((49, 11, 52) :: ((49, 8, 51) :: ((49, 7, 50) :: ((18, 4, 43) :: ((43, 14, 48) :: ((43, 12, 47) :: ((43, 11, 46) :: ((43, 8, 45) :: ((43, 7, 44) :: ((18, 3, 37) :: ((37, 14, 42) :: ((37, 12, 41) :: ((37, 11, 40) :: ((37, 8, 39) :: ((37, 7, 38) :: ((18, 2, 31) :: ((31, 14, 36) :: ((31, 12, 35) :: ((31, 11, 34) :: ((31, 8, 33) :: ((31, 7, 32) :: ((18, 1, 25) :: ((25, 14, 30) :: ((25, 12, 29) :: ((25, 11, 28) :: ((25, 8, 27) :: ((25, 7, 26) :: ((18, 0, 19) :: ((19, 14, 24) :: ((19, 12, 23) :: ((19, 11, 22) :: ((19, 8, 21) :: ((19, 7, 20) :: ((11, 6, 18) :: ((11, 0, 12) :: ((12, 14, 17) :: ((12, 12, 16) :: ((12, 11, 15) :: ((12, 8, 14) :: ((12, 7, 13) :: []))))))))))))))))))))))))))))))))))))))))))))))))))))))))))))))))))))))))))))))) [] (sl) H) : ∃ v H2, F_World_init N 91 H = some (v, H2) ∧ SQ 11 11 [93, 87, 81, 75, 69, 63, 57, 51, 45, 39, 33, 27, 21, 14] A 11 97 ((91, 14, 96) :: ((91, 12, 95) :: ((91, 11, 94) :: ((91, 8, 93) :: ((91, 7, 92) :: ((18, 11, 85) :: ((85, 14, 90) :: ((85, 12, 89) :: ((85, 11, 88) :: ((85, 8, 87) :: ((85, 7, 86) :: ((18, 10, 79) :: ((79, 14, 84) :: ((79, 12, 83) :: ((79, 11, 82) :: ((79, 8, 81) :: ((79, 7, 80) :: ((18, 9, 73) :: ((73, 14, 78) :: ((73, 12, 77) :: ((73, 11, 76) :: ((73, 8, 75) :: ((73, 7, 74) :: ((18, 8, 67) :: ((67, 14, 72) :: ((67, 12, 71) :: ((67, 11, 70) :: ((67, 8, 69) :: ((67, 7, 68) :: ((18, 7, 61) :: ((61, 14, 66) :: ((61, 12, 65) :: ((61, 11, 64) :: ((61, 8, 63) :: ((61, 7, 62) :: ((18, 6, 55) :: ((55, 14, 60) :: ((55, 12, 59) :: ((55, 11, 58) :: ((55, 8, 57) :: ((55, 7, 56) :: ((18, 5, 49) :: ((49, 14, 54) :: ((49, 12, 53) :: ((49, 11, 52) :: ((49, 8, 51) :: ((49, 7, 50) :: ((18, 4, 43) :: ((43, 14, 48) :: ((43, 12, 47) :: ((43, 11, 46) :: ((43, 8, 45) :: ((43, 7, 44) :: ((18, 3, 37) :: ((37, 14, 42) :: ((37, 12, 41) :: ((37, 11, 40) :: ((37, 8, 39) :: ((37, 7, 38) :: ((18, 2, 31) :: ((31, 14, 36) :: ((31, 12, 35) :: ((31, 11, 34) :: ((31, 8, 33) :: ((31, 7, 32) :: ((18, 1, 25) :: ((25, 14, 30) :: ((25, 12, 29) :: ((25, 11, 28) :: ((25, 8, 27) :: ((25, 7, 26) :: ((18, 0, 19) :: ((19, 14, 24) :: ((19, 12, 23) :: ((19, 11, 22) :: ((19, 8, 21) :: ((19, 7, 20) :: ((11, 6, 18) :: ((11, 0, 12) :: ((12, 14, 17) :: ((12, 12, 16) :: ((12, 11, 15) :: ((12, 8, 14) :: ((12, 7, 13) :: [])))))))))))))))))))))))))))))))))))))))))))))))))))))))))))))))))))))))))))))))))))) [] (sl + 256 + 256 + 12288 + 1792 + 32) H2 := by
  unfold F_World_init
  refine q_ck (by decide) ?_
  refine q_ck (by decide) ?_
  refine q_nw h0 (by decide) (by decide +kernel) (by decide +kernel) (by decide +kernel) (by decide) (by decide) (fun K1 h1 => ?_)
  refine q_ck (SQ.get h1 (by decide) (by decide +kernel)) ?_
  refine q_sP h1 (by decide) (by decide +kernel) (fun K2 h2 => ?_)
  refine q_ck (by decide) ?_
  refine q_ck (by decide) ?_
  refine q_nw h2 (by decide) (by decide +kernel) (by decide +kernel) (by decide +kernel) (by decide) (by decide) (fun K3 h3 => ?_)
  refine q_sP h3 (by decide) (by decide +kernel) (fun K4 h4 => ?_)
  refine q_rf (t := 93) h4 (by decide +kernel) ?_
  obtain ⟨F2, f1, f2, f3⟩ := ev_fill (N := N) (v := -1) (by omega) (by decide) (SQ.get h4 (a := 93) (s := (100, 256)) (by decide) (by decide +kernel))
  rw [bC_t f1]
  have h5 := SQ.xx h4 f2 (by decide) (by decide +kernel) (fun z => absurd z (by decide))
  refine q_ck (by decide) ?_
  refine q_ck (by decide) ?_
  refine q_nw h5 (by decide) (by decide +kernel) (by decide +kernel) (by decide +kernel) (by decide) (by decide) (fun K6 h6 => ?_)
  refine q_sP h6 (by decide) (by decide +kernel) (fun K7 h7 => ?_)
  refine q_ck (by decide) ?_
  refine q_ck (by decide) ?_
  refine q_nw h7 (by decide) (by decide +kernel) (by decide +kernel) (by decide +kernel) (by decide) (by decide) (fun K8 h8 => ?_)
  refine q_sP h8 (by decide) (by decide +kernel) (fun K9 h9 => ?_)
  refine q_ck (by decide) ?_
  refine q_ck (by decide) ?_
  refine q_nw h9 (by decide) (by decide +kernel) (by decide +kernel) (by decide +kernel) (by decide) (by decide) (fun K10 h10 => ?_)
  refine q_sP h10 (by decide) (by decide +kernel) (fun K11 h11 => ?_)
  exact q_end (h11)
set_option maxRecDepth 20000 in
set_option maxHeartbeats 4000000 in
theorem ci_97 {N : Nat} (hN : 300 ≤ N) (h0 : SQ 11 11 [93, 87, 81, 75, 69, 63, 57, 51, 45, 39, 33, 27, 21, 14] A 11 98 ((18, 12, 91) :: ((91, 14, 96) :: ((91, 12, 95) :: ((91, 11, 94) :: ((91, 8, 93) :: ((91, 7, 92) :: ((18, 11, 85) :: ((85, 14, 90) :: ((85, 12, 89) :: ((85, 11, 88) :: ((85, 8, 87) :: ((85, 7, 86) :: ((18, 10, 79) :: ((79, 14, 84) :: ((79, 12, 83) :: ((79, 11, 82) :: ((79, 8, 81) :: ((79, 7, 80) :: ((18, 9, 73) :: ((73, 14, 78) :: ((73, 12, 77) :: ((73, 11, 76) :: ((73, 8, 75) :: ((73, 7, 74) :: ((18, 8, 67) :: ((67, 14, 72) :: ((67, 12, 71) :: ((67, 11, 70) :: ((67, 8, 69) :: ((67, 7, 68) :: ((18, 7, 61) :: ((61, 14, 66) :: ((61, 12, 65) :: ((61, 11, 64) :: ((61, 8, 63) :: ((61, 7, 62) :: ((18, 6, 55) :: ((55, 14, 60) :: ((55, 12, 59) :: ((55, 11, 58) :: ((55, 8, 57) :: ((55, 7, 56) :: ((18, 5, 49) :: ((49, 14, 54) :: ((49, 12, 53) :: ((49, 11, 52) :: ((49, 8, 51) :: ((49, 7, 50) :: ((18, 4, 43) :: ((43, 14, 48) :: ((43, 12, 47) :: ((43, 11, 46) :: ((43, 8, 45) :: ((43, 7, 44) :: ((18, 3, 37) :: ((37, 14, 42) :: ((37, 12, 41) :: ((37, 11, 40) :: ((37, 8, 39) :: ((37, 7, 38) :: ((18, 2, 31) :: ((31, 14, 36) :: ((31, 12, 35) :: ((31, 11, 34) :: ((31, 8, 33) :: ((31, 7, 32) :: ((18, 1, 25) :: ((25, 14, 30) :: ((25, 12, 29) :: ((25, 11, 28) :: ((25, 8, 27) :: ((25, 7, 26) :: ((18, 0, 19) :: ((19, 14, 24) :: ((19, 12, 23) :: ((19, 11, 22) :: ((19, 8, 21) :: ((19, 7, 20) :: ((11, 6, 18) :: ((11, 0, 12) :: ((12, 14, 17) :: ((12, 12, 16) :: ((12, 11, 15) :: ((12, 8, 14) :: ((12, 7, 13) :: []))))))))))))))))))))))))))))))))))))))))))))))))))))))))))))))))))))))))))))))))))))) [] (sl) H) : ∃ v H2, F_World_init N 97 H = some (v, H2) ∧ SQ 11 11 [99, 93, 87, 81, 75, 69, 63, 57, 51, 45, 39, 33, 27, 21, 14] A 11 103 ((97, 14, 102) :: ((97, 12, 101) :: ((97, 11, 100) :: ((97, 8, 99) :: ((97, 7, 98) :: ((18, 12, 91) :: ((91, 14, 96) :: ((91, 12, 95) :: ((91, 11, 94) :: ((91, 8, 93) :: ((91, 7, 92) :: ((18, 11, 85) :: ((85, 14, 90) :: ((85, 12, 89) :: ((85, 11, 88) :: ((85, 8, 87) :: ((85, 7, 86) :: ((18, 10, 79) :: ((79, 14, 84) :: ((79, 12, 83) :: ((79, 11, 82) :: ((79, 8, 81) :: ((79, 7, 80) :: ((18, 9, 73) :: ((73, 14, 78) :: ((73, 12, 77) :: ((73, 11, 76) :: ((73, 8, 75) :: ((73, 7, 74) :: ((18, 8, 67) :: ((67, 14, 72) :: ((67, 12, 71) :: ((67, 11, 70) :: ((67, 8, 69) :: ((67, 7, 68) :: ((18, 7, 61) :: ((61, 14, 66) :: ((61, 12, 65) :: ((61, 11, 64) :: ((61, 8, 63) :: ((61, 7, 62) :: ((18, 6, 55) :: ((55, 14, 60) :: ((55, 12, 59) :: ((55, 11, 58) :: ((55, 8, 57) :: ((55, 7, 56) :: ((18, 5, 49) :: ((49, 14, 54) :: ((49, 12, 53) :: ((49, 11, 52) :: ((49, 8, 51) :: ((49, 7, 50) :: ((18, 4, 43) :: ((43, 14, 48) :: ((43, 12, 47) :: ((43, 11, 46) :: ((43, 8, 45) :: ((43, 7, 44) :: ((18, 3, 37) :: ((37, 14, 42) :: ((37, 12, 41) :: ((37, 11, 40) :: ((37, 8, 39) :: ((37, 7, 38) :: ((18, 2, 31) :: ((31, 14, 36) :: ((31, 12, 35) :: ((31, 11, 34) :: ((31, 8, 33) :: ((31, 7, 32) :: ((18, 1, 25) :: ((25, 14, 30) :: ((25, 12, 29) :: ((25, 11, 28) :: ((25, 8, 27) :: ((25, 7, 26) :: ((18, 0, 19) :: ((19, 14, 24) :: ((19, 12, 23) :: ((19, 11, 22) :: ((19, 8, 21) :: ((19, 7, 20) :: ((11, 6, 18) :: ((11, 0, 12) :: ((12, 14, 17) :: ((12, 12, 16) :: ((12, 11, 15) :: ((12, 8, 14) :: ((12, 7, 13) :: [])))))))))))))))))))))))))))))))))))))))))))))))))))))))))))))))))))))))))))))))))))))))))) [] (sl + 256 + 256 + 12288 + 1792 + 32) H2 := by
  unfold F_World_init
  refine q_ck (by decide) ?_
  refine q_ck (by decide) ?_
  refine q_nw h0 (by decide) (by decide +kernel) (by decide +kernel) (by decide +kernel) (by decide) (by decide) (fun K1 h1 => ?_)
  refine q_ck (SQ.get h1 (by decide) (by decide +kernel)) ?_
  refine q_sP h1 (by decide) (by decide +kernel) (fun K2 h2 => ?_)
  refine q_ck (by decide) ?_
  refine q_ck (by decide) ?_
  refine q_nw h2 (by decide) (by decide +kernel) (by decide +kernel) (by decide +kernel) (by decide) (by decide) (fun K3 h3 => ?_)
  refine q_sP h3 (by decide) (by decide +kernel) (fun K4 h4 => ?_)
  refine q_rf (t := 99) h4 (by decide +kernel) ?_
  obtain ⟨F2, f1, f2, f3⟩ := ev_fill (N := N) (v := -1) (by omega) (by decide) (SQ.get h4 (a := 99) (s := (100, 256)) (by decide) (by decide +kernel))
  rw [bC_t f1]
  have h5 := SQ.xx h4 f2 (by decide) (by decide +kernel) (fun z => absurd z (by decide))
  refine q_ck (by decide) ?_
  refine q_ck (by decide) ?_
  refine q_nw h5 (by decide) (by decide +kernel) (by decide +kernel) (by decide +kernel) (by decide) (by decide) (fun K6 h6 => ?_)
  refine q_sP h6 (by decide) (by decide +kernel) (fun K7 h7 => ?_)
  refine q_ck (by decide) ?_
  refine q_ck (by decide) ?_
  refine q_nw h7 (by decide) (by decide +kernel) (by decide +kernel) (by decide +kernel) (by decide) (by decide) (fun K8 h8 => ?_)
  refine q_sP h8 (by decide) (by decide +kernel) (fun K9 h9 => ?_)
  refine q_ck (by decide) ?_
  refine q_ck (by decide) ?_
  refine q_nw h9 (by decide) (by decide +kernel) (by decide +kernel) (by decide +kernel) (by decide) (by decide) (fun K10 h10 => ?_)
  refine q_sP h10 (by decide) (by decide +kernel) (fun K11 h11 => ?_)
  exact q_end (h11)
set_option maxRecDepth 20000 in
set_option maxHeartbeats 4000000 in
theorem ci_103 {N : Nat} (hN : 300 ≤ N) (h0 : SQ 11 11 [99, 93, 87, 81, 75, 69, 63, 57, 51, 45, 39, 33, 27, 21, 14] A 11 104 ((18, 13, 97) :: ((97, 14, 102) :: ((97, 12, 101) :: ((97, 11, 100) :: ((97, 8, 99) :: ((97, 7, 98) :: ((18, 12, 91) :: ((91, 14, 96) :: ((91, 12, 95) :: ((91, 11, 94) :: ((91, 8, 93) :: ((91, 7, 92) :: ((18, 11, 85) :: ((85, 14, 90) :: ((85, 12, 89) :: ((85, 11, 88) :: ((85, 8, 87) :: ((85, 7, 86) :: ((18, 10, 79) :: ((79, 14, 84) :: ((79, 12, 83) :: ((79, 11, 82) :: ((79, 8, 81) :: ((79, 7, 80) :: ((18, 9, 73) :: ((73, 14, 78) :: ((73, 12, 77) :: ((73, 11, 76) :: ((73, 8, 75) :: ((73, 7, 74) :: ((18, 8, 67) :: ((67, 14, 72) :: ((67, 12, 71) :: ((67, 11, 70) :: ((67, 8, 69) :: ((67, 7, 68) :: ((18, 7, 61) :: ((61, 14, 66) :: ((61, 12, 65) :: ((61, 11, 64) :: ((61, 8, 63) :: ((61, 7, 62) :: ((18, 6, 55) :: ((55, 14, 60) :: ((55, 12, 59) :: ((55, 11, 58) :: ((55, 8, 57) :: ((55, 7, 56) :: ((18, 5, 49) :: ((49, 14, 54) :: ((49, 12, 53) :: ((49, 11, 52) :: ((49, 8, 51) :: ((49, 7, 50) :: ((18, 4, 43) :: ((43, 14, 48) :: ((43, 12, 47) :: ((43, 11, 46) :: ((43, 8, 45) :: ((43, 7, 44) :: ((18, 3, 37) :: ((37, 14, 42) :: ((37, 12, 41) :: ((37, 11, 40) :: ((37, 8, 39) :: ((37, 7, 38) :: ((18, 2, 31) :: ((31, 14, 36) :: ((31, 12, 35) :: ((31, 11, 34) :: ((31, 8, 33) :: ((31, 7, 32) :: ((18, 1, 25) :: ((25, 14, 30) :: ((25, 12, 29) :: ((25, 11, 28) :: ((25, 8, 27) :: ((25, 7, 26) :: ((18, 0, 19) :: ((19, 14, 24) :: ((19, 12, 23) :: ((19, 11, 22) :: ((19, 8, 21) :: ((19, 7, 20) :: ((11, 6, 18) :: ((11, 0, 12) :: ((12, 14, 17) :: ((12, 12, 16) :: ((12, 11, 15) :: ((12, 8, 14) :: ((12, 7, 13) :: []))))))))))))))))))))))))))))))))))))))))))))))))))))))))))))))))))))))))))))))))))))))))))) [] (sl) H) : ∃ v H2, F_World_init N 103 H = some (v, H2) ∧ SQ 11 11 [105, 99, 93, 87, 81, 75, 69, 63, 57, 51, 45, 39, 33, 27, 21, 14] A 11 109 ((103, 14, 108) :: ((103, 12, 107) :: ((103, 11, 106) :: ((103, 8, 105) :: ((103, 7, 104) :: ((18, 13, 97) :: ((97, 14, 102) :: ((97, 12, 101) :: ((97, 11, 100) :: ((97, 8, 99) :: ((97, 7, 98) :: ((18, 12, 91) :: ((91, 14, 96) :: ((91, 12, 95) :: ((91, 11, 94) :: ((91, 8, 93) :: ((91, 7, 92) :: ((18, 11, 85) :: ((85, 14, 90) :: ((85, 12, 89) :: ((85, 11, 88) :: ((85, 8, 87) :: ((85, 7, 86) :: ((18, 10, 79) :: ((79, 14, 84) :: ((79, 12, 83) :: ((79, 11, 82) :: ((79, 8, 81) :: ((79, 7, 80) :: ((18, 9, 73) :: ((73, 14, 78) :: ((73, 12, 77) :: ((73, 11, 76) :: ((73, 8, 75) :: ((73, 7, 74) :: ((18, 8, 67) :: ((67, 14, 72) :: ((67, 12, 71) :: ((67, 11, 70) :: ((67, 8, 69) :: ((67, 7, 68) :: ((18, 7, 61) :: ((61, 14, 66) :: ((61, 12, 65) :: ((61, 11, 64) :: ((61, 8, 63) :: ((61, 7, 62) :: ((18, 6, 55) :: ((55, 14, 60) :: ((55, 12, 59) :: ((55, 11, 58) :: ((55, 8, 57) :: ((55, 7, 56) :: ((18, 5, 49) :: ((49, 14, 54) :: ((49, 12, 53) :: ((49, 11, 52) :: ((49, 8, 51) :: ((49, 7, 50) :: ((18, 4, 43) :: ((43, 14, 48) :: ((43, 12, 47) :: ((43, 11, 46) :: ((43, 8, 45) :: ((43, 7, 44) :: ((18, 3, 37) :: ((37, 14, 42) :: ((37, 12, 41) :: ((37, 11, 40) :: ((37, 8, 39) :: ((37, 7, 38) :: ((18, 2, 31) :: ((31, 14, 36) :: ((31, 12, 35) :: ((31, 11, 34) :: ((31, 8, 33) :: ((31, 7, 32) :: ((18, 1, 25) :: ((25, 14, 30) :: ((25, 12, 29) :: ((25, 11, 28) :: ((25, 8, 27) :: ((25, 7, 26) :: ((18, 0, 19) :: ((19, 14, 24) :: ((19, 12, 23) :: ((19, 11, 22) :: ((19, 8, 21) :: ((19, 7, 20) :: ((11, 6, 18) :: ((11, 0, 12) :: ((12, 14, 17) :: ((12, 12, 16) :: ((12, 11, 15) :: ((12, 8, 14) :: ((12, 7, 13) :: [])))))))))))))))))))))))))))))))))))))))))))))))))))))))))))))))))))))))))))))))))))))))))))))))) [] (sl + 256 + 256 + 12288 + 1792 + 32) H2 := by
  unfold F_World_init
  refine q_ck (by decide) ?_
  refine q_ck (by decide) ?_
  refine q_nw h0 (by decide) (by decide +kernel) (by decide +kernel) (by decide +kernel) (by decide) (by decide) (fun K1 h1 => ?_)
  refine q_ck (SQ.get h1 (by decide) (by decide +kernel)) ?_
  refine q_sP h1 (by decide) (by decide +kernel) (fun K2 h2 => ?_)
  refine q_ck (by decide) ?_
  refine q_ck (by decide) ?_
  refine q_nw h2 (by decide) (by decide +kernel) (by decide +kernel) (by decide +kernel) (by decide) (by decide) (fun K3 h3 => ?_)
  refine q_sP h3 (by decide) (by decide +kernel) (fun K4 h4 => ?_)
  refine q_rf (t := 105) h4 (by decide +kernel) ?_
  obtain ⟨F2, f1, f2, f3⟩ := ev_fill (N := N) (v := -1) (by omega) (by decide) (SQ.get h4 (a := 105) (s := (100, 256)) (by decide) (by decide +kernel))
  rw [bC_t f1]
  have h5 := SQ.xx h4 f2 (by decide) (by decide +kernel) (fun z => absurd z (by decide))
  refine q_ck (by decide) ?_
  refine q_ck (by decide) ?_
  refine q_nw h5 (by decide) (by decide +kernel) (by decide +kernel) (by decide +kernel) (by decide) (by decide) (fun K6 h6 => ?_)
  refine q_sP h6 (by decide) (by decide +kernel) (fun K7 h7 => ?_)
  refine q_ck (by decide) ?_
  refine q_ck (by decide) ?_
  refine q_nw h7 (by decide) (by decide +kernel) (by decide +kernel) (by decide +kernel) (by decide) (by decide) (fun K8 h8 => ?_)
  refine q_sP h8 (by decide) (by decide +kernel) (fun K9 h9 => ?_)
  refine q_ck (by decide) ?_
  refine q_ck (by decide) ?_
  refine q_nw h9 (by decide) (by decide +kernel) (by decide +kernel) (by decide +kernel) (by decide) (by decide) (fun K10 h10 => ?_)
  refine q_sP h10 (by decide) (by decide +kernel) (fun K11 h11 => ?_)
  exact q_end (h11)
set_option maxRecDepth 20000 in
set_option maxHeartbeats 4000000 in
theorem ci_109 {N : Nat} (hN : 300 ≤ N) (h0 : SQ 11 11 [105, 99, 93, 87, 81, 75, 69, 63, 57, 51, 45, 39, 33, 27, 21, 14] A 11 110 ((18, 14, 103) :: ((103, 14, 108) :: ((103, 12, 107) :: ((103, 11, 106) :: ((103, 8, 105) :: ((103, 7, 104) :: ((18, 13, 97) :: ((97, 14, 102) :: ((97, 12, 101) :: ((97, 11, 100) :: ((97, 8, 99) :: ((97, 7, 98) :: ((18, 12, 91) :: ((91, 14, 96) :: ((91, 12, 95) :: ((91, 11, 94) :: ((91, 8, 93) :: ((91, 7, 92) :: ((18, 11, 85) :: ((85, 14, 90) :: ((85, 12, 89) :: ((85, 11, 88) :: ((85, 8, 87) :: ((85, 7, 86) :: ((18, 10, 79) :: ((79, 14, 84) :: ((79, 12, 83) :: ((79, 11, 82) :: ((79, 8, 81) :: ((79, 7, 80) :: ((18, 9, 73) :: ((73, 14, 78) :: ((73, 12, 77) :: ((73, 11, 76) :: ((73, 8, 75) :: ((73, 7, 74) :: ((18, 8, 67) :: ((67, 14, 72) :: ((67, 12, 71) :: ((67, 11, 70) :: ((67, 8, 69) :: ((67, 7, 68) :: ((18, 7, 61) :: ((61, 14, 66) :: ((61, 12, 65) :: ((61, 11, 64) :: ((61, 8, 63) :: ((61, 7, 62) :: ((18, 6, 55) :: ((55, 14, 60) :: ((55, 12, 59) :: ((55, 11, 58) :: ((55, 8, 57) :: ((55, 7, 56) :: ((18, 5, 49) :: ((49, 14, 54) :: ((49, 12, 53) :: ((49, 11, 52) :: ((49, 8, 51) :: ((49, 7, 50) :: ((18, 4, 43) :: ((43, 14, 48) :: ((43, 12, 47) :: ((43, 11, 46) :: ((43, 8, 45) :: ((43, 7, 44) :: ((18, 3, 37) :: ((37, 14, 42) :: ((37, 12, 41) :: ((37, 11, 40) :: ((37, 8, 39) :: ((37, 7, 38) :: ((18, 2, 31) :: ((31, 14, 36) :: ((31, 12, 35) :: ((31, 11, 34) :: ((31, 8, 33) :: ((31, 7, 32) :: ((18, 1, 25) :: ((25, 14, 30) :: ((25, 12, 29) :: ((25, 11, 28) :: ((25, 8, 27) :: ((25, 7, 26) :: ((18, 0, 19) :: ((19, 14, 24) :: ((19, 12, 23) :: ((19, 11, 22) :: ((19, 8, 21) :: ((19, 7, 20) :: ((11, 6, 18) :: ((11, 0, 12) :: ((12, 14, 17) :: ((12, 12, 16) :: ((12, 11, 15) :: ((12, 8, 14) :: ((12, 7, 13) :: []))))))))))))))))))))))))))))))))))))))))))))))))))))))))))))))))))))))))))))))))))))))))))))))))) [] (sl) H) : ∃ v H2, F_World_init N 109 H = some (v, H2) ∧ SQ 11 11 [111, 105, 99, 93, 87, 81, 75, 69, 63, 57, 51, 45, 39, 33, 27, 21, 14] A 11 115 ((109, 14, 114) :: ((109, 12, 113) :: ((109, 11, 112) :: ((109, 8, 111) :: ((109, 7, 110) :: ((18, 14, 103) :: ((103, 14, 108) :: ((103, 12, 107) :: ((103, 11, 106) :: ((103, 8, 105) :: ((103, 7, 104) :: ((18, 13, 97) :: ((97, 14, 102) :: ((97, 12, 101) :: ((97, 11, 100) :: ((97, 8, 99) :: ((97, 7, 98) :: ((18, 12, 91) :: ((91, 14, 96) :: ((91, 12, 95) :: ((91, 11, 94) :: ((91, 8, 93) :: ((91, 7, 92) :: ((18, 11, 85) :: ((85, 14, 90) :: ((85, 12, 89) :: ((85, 11, 88) :: ((85, 8, 87) :: ((85, 7, 86) :: ((18, 10, 79) :: ((79, 14, 84) :: ((79, 12, 83) :: ((79, 11, 82) :: ((79, 8, 81) :: ((79, 7, 80) :: ((18, 9, 73) :: ((73, 14, 78) :: ((73, 12, 77) :: ((73, 11, 76) :: ((73, 8, 75) :: ((73, 7, 74) :: ((18, 8, 67) :: ((67, 14, 72) :: ((67, 12, 71) :: ((67, 11, 70) :: ((67, 8, 69) :: ((67, 7, 68) :: ((18, 7, 61) :: ((61, 14, 66) :: ((61, 12, 65) :: ((61, 11, 64) :: ((61, 8, 63) :: ((61, 7, 62) :: ((18, 6, 55) :: ((55, 14, 60) :: ((55, 12, 59) :: ((55, 11, 58) :: ((55, 8, 57) :: ((55, 7, 56) :: ((18, 5, 49) :: ((49, 14, 54) :: ((49, 12, 53) :: ((49, 11, 52) :: ((49, 8, 51) :: ((49, 7, 50) :: ((18, 4, 43) :: ((43, 14, 48) :: ((43, 12, 47) :: ((43, 11, 46) :: ((43, 8, 45) :: ((43, 7, 44) :: ((18, 3, 37) :: ((37, 14, 42) :: ((37, 12, 41) :: ((37, 11, 40) :: ((37, 8, 39) :: ((37, 7, 38) :: ((18, 2, 31) :: ((31, 14, 36) :: ((31, 12, 35) :: ((31, 11, 34) :: ((31, 8, 33) :: ((31, 7, 32) :: ((18, 1, 25) :: ((25, 14, 30) :: ((25, 12, 29) :: ((25, 11, 28) :: ((25, 8, 27) :: ((25, 7, 26) :: ((18, 0, 19) :: ((19, 14, 24) :: ((19, 12, 23) :: ((19, 11, 22) :: ((19, 8, 21) :: ((19, 7, 20) :: ((11, 6, 18) :: ((11, 0, 12) :: ((12, 14, 17) :: ((12, 12, 16) :: ((12, 11, 15) :: ((12, 8, 14) :: ((12, 7, 13) :: [])))))))))))))))))))))))))))))))))))))))))))))))))))))))))))))))))))))))))))))))))))))))))))))))))))))) [] (sl + 256 + 256 + 12288 + 1792 + 32) H2 := by
  unfold F_World_init
  refine q_ck (by decide) ?_
  refine q_ck (by decide) ?_
  refine q_nw h0 (by decide) (by decide +kernel) (by decide +kernel) (by decide +kernel) (by decide) (by decide) (fun K1 h1 => ?_)
  refine q_ck (SQ.get h1 (by decide) (by decide +kernel)) ?_
  refine q_sP h1 (by decide) (by decide +kernel) (fun K2 h2 => ?_)
  refine q_ck (by decide) ?_
  refine q_ck (by decide) ?_
  refine q_nw h2 (by decide) (by decide +kernel) (by decide +kernel) (by decide +kernel) (by decide) (by decide) (fun K3 h3 => ?_)
  refine q_sP h3 (by decide) (by decide +kernel) (fun K4 h4 => ?_)
  refine q_rf (t := 111) h4 (by decide +kernel) ?_
  obtain ⟨F2, f1, f2, f3⟩ := ev_fill (N := N) (v := -1) (by omega) (by decide) (SQ.get h4 (a := 111) (s := (100, 256)) (by decide) (by decide +kernel))
  rw [bC_t f1]
  have h5 := SQ.xx h4 f2 (by decide) (by decide +kernel) (fun z => absurd z (by decide))
  refine q_ck (by decide) ?_
  refine q_ck (by decide) ?_
  refine q_nw h5 (by decide) (by decide +kernel) (by decide +kernel) (by decide +kernel) (by decide) (by decide) (fun K6 h6 => ?_)
  refine q_sP h6 (by decide) (by decide +kernel) (fun K7 h7 => ?_)
  refine q_ck (by decide) ?_
  refine q_ck (by decide) ?_
  refine q_nw h7 (by decide) (by decide +kernel) (by decide +kernel) (by decide +kernel) (by decide) (by decide) (fun K8 h8 => ?_)
  refine q_sP h8 (by decide) (by decide +kernel) (fun K9 h9 => ?_)
  refine q_ck (by decide) ?_
  refine q_ck (by decide) ?_
  refine q_nw h9 (by decide) (by decide +kernel) (by decide +kernel) (by decide +kernel) (by decide) (by decide) (fun K10 h10 => ?_)
  refine q_sP h10 (by decide) (by decide +kernel) (fun K11 h11 => ?_)
  exact q_end (h11)
set_option maxRecDepth 20000 in
set_option maxHeartbeats 4000000 in
theorem ci_117 {N : Nat} (hN : 300 ≤ N) (h0 : SQ 11 11 [111, 105, 99, 93, 87, 81, 75, 69, 63, 57, 51, 45, 39, 33, 27, 21, 14] A 11 118 ((11, 4, 115) :: ((18, 15, 109) :: ((109, 14, 114) :: ((109, 12, 113) :: ((109, 11, 112) :: ((109, 8, 111) :: ((109, 7, 110) :: ((18, 14, 103) :: ((103, 14, 108) :: ((103, 12, 107) :: ((103, 11, 106) :: ((103, 8, 105) :: ((103, 7, 104) :: ((18, 13, 97) :: ((97, 14, 102) :: ((97, 12, 101) :: ((97, 11, 100) :: ((97, 8, 99) :: ((97, 7, 98) :: ((18, 12, 91) :: ((91, 14, 96) :: ((91, 12, 95) :: ((91, 11, 94) :: ((91, 8, 93) :: ((91, 7, 92) :: ((18, 11, 85) :: ((85, 14, 90) :: ((85, 12, 89) :: ((85, 11, 88) :: ((85, 8, 87) :: ((85, 7, 86) :: ((18, 10, 79) :: ((79, 14, 84) :: ((79, 12, 83) :: ((79, 11, 82) :: ((79, 8, 81) :: ((79, 7, 80) :: ((18, 9, 73) :: ((73, 14, 78) :: ((73, 12, 77) :: ((73, 11, 76) :: ((73, 8, 75) :: ((73, 7, 74) :: ((18, 8, 67) :: ((67, 14, 72) :: ((67, 12, 71) :: ((67, 11, 70) :: ((67, 8, 69) :: ((67, 7, 68) :: ((18, 7, 61) :: ((61, 14, 66) :: ((61, 12, 65) :: ((61, 11, 64) :: ((61, 8, 63) :: ((61, 7, 62) :: ((18, 6, 55) :: ((55, 14, 60) :: ((55, 12, 59) :: ((55, 11, 58) :: ((55, 8, 57) :: ((55, 7, 56) :: ((18, 5, 49) :: ((49, 14, 54) :: ((49, 12, 53) :: ((49, 11, 52) :: ((49, 8, 51) :: ((49, 7, 50) :: ((18, 4, 43) :: ((43, 14, 48) :: ((43, 12, 47) :: ((43, 11, 46) :: ((43, 8, 45) :: ((43, 7, 44) :: ((18, 3, 37) :: ((37, 14, 42) :: ((37, 12, 41) :: ((37, 11, 40) :: ((37, 8, 39) :: ((37, 7, 38) :: ((18, 2, 31) :: ((31, 14, 36) :: ((31, 12, 35) :: ((31, 11, 34) :: ((31, 8, 33) :: ((31, 7, 32) :: ((18, 1, 25) :: ((25, 14, 30) :: ((25, 12, 29) :: ((25, 11, 28) :: ((25, 8, 27) :: ((25, 7, 26) :: ((18, 0, 19) :: ((19, 14, 24) :: ((19, 12, 23) :: ((19, 11, 22) :: ((19, 8, 21) :: ((19, 7, 20) :: ((11, 6, 18) :: ((11, 0, 12) :: ((12, 14, 17) :: ((12, 12, 16) :: ((12, 11, 15) :: ((12, 8, 14) :: ((12, 7, 13) :: [])))))))))))))))))))))))))))))))))))))))))))))))))))))))))))))))))))))))))))))))))))))))))))))))))))))))) [(11, 2, 1)] (sl) H) : ∃ v H2, F_Row_init N 117 H = some (v, H2) ∧ SQ 11 11 [111, 105, 99, 93, 87, 81, 75, 69, 63, 57, 51, 45, 39, 33, 27, 21, 14] A 11 125 ((117, 11, 124) :: ((117, 10, 123) :: ((117, 9, 122) :: ((117, 8, 121) :: ((117, 7, 120) :: ((117, 5, 119) :: ((117, 0, 118) :: ((11, 4, 115) :: ((18, 15, 109) :: ((109, 14, 114) :: ((109, 12, 113) :: ((109, 11, 112) :: ((109, 8, 111) :: ((109, 7, 110) :: ((18, 14, 103) :: ((103, 14, 108) :: ((103, 12, 107) :: ((103, 11, 106) :: ((103, 8, 105) :: ((103, 7, 104) :: ((18, 13, 97) :: ((97, 14, 102) :: ((97, 12, 101) :: ((97, 11, 100) :: ((97, 8, 99) :: ((97, 7, 98) :: ((18, 12, 91) :: ((91, 14, 96) :: ((91, 12, 95) :: ((91, 11, 94) :: ((91, 8, 93) :: ((91, 7, 92) :: ((18, 11, 85) :: ((85, 14, 90) :: ((85, 12, 89) :: ((85, 11, 88) :: ((85, 8, 87) :: ((85, 7, 86) :: ((18, 10, 79) :: ((79, 14, 84) :: ((79, 12, 83) :: ((79, 11, 82) :: ((79, 8, 81) :: ((79, 7, 80) :: ((18, 9, 73) :: ((73, 14, 78) :: ((73, 12, 77) :: ((73, 11, 76) :: ((73, 8, 75) :: ((73, 7, 74) :: ((18, 8, 67) :: ((67, 14, 72) :: ((67, 12, 71) :: ((67, 11, 70) :: ((67, 8, 69) :: ((67, 7, 68) :: ((18, 7, 61) :: ((61, 14, 66) :: ((61, 12, 65) :: ((61, 11, 64) :: ((61, 8, 63) :: ((61, 7, 62) :: ((18, 6, 55) :: ((55, 14, 60) :: ((55, 12, 59) :: ((55, 11, 58) :: ((55, 8, 57) :: ((55, 7, 56) :: ((18, 5, 49) :: ((49, 14, 54) :: ((49, 12, 53) :: ((49, 11, 52) :: ((49, 8, 51) :: ((49, 7, 50) :: ((18, 4, 43) :: ((43, 14, 48) :: ((43, 12, 47) :: ((43, 11, 46) :: ((43, 8, 45) :: ((43, 7, 44) :: ((18, 3, 37) :: ((37, 14, 42) :: ((37, 12, 41) :: ((37, 11, 40) :: ((37, 8, 39) :: ((37, 7, 38) :: ((18, 2, 31) :: ((31, 14, 36) :: ((31, 12, 35) :: ((31, 11, 34) :: ((31, 8, 33) :: ((31, 7, 32) :: ((18, 1, 25) :: ((25, 14, 30) :: ((25, 12, 29) :: ((25, 11, 28) :: ((25, 8, 27) :: ((25, 7, 26) :: ((18, 0, 19) :: ((19, 14, 24) :: ((19, 12, 23) :: ((19, 11, 22) :: ((19, 8, 21) :: ((19, 7, 20) :: ((11, 6, 18) :: ((11, 0, 12) :: ((12, 14, 17) :: ((12, 12, 16) :: ((12, 11, 15) :: ((12, 8, 14) :: ((12, 7, 13) :: []))))))))))))))))))))))))))))))))))))))))))))))))))))))))))))))))))))))))))))))))))))))))))))))))))))))))))))))) [(11, 2, 1)] (sl + 704 + 160 + 12 + 21 + 21 + 11 + 48) H2 := by
  unfold F_Row_init
  refine q_ck (by decide) ?_
  refine q_ck (by decide) ?_
  refine q_nw h0 (by decide) (by decide +kernel) (by decide +kernel) (by decide +kernel) (by decide) (by decide) (fun K1 h1 => ?_)
  refine q_ck (SQ.get h1 (by decide) (by decide +kernel)) ?_
  refine q_sP h1 (by decide) (by decide +kernel) (fun K2 h2 => ?_)
  refine q_ck (by decide) ?_
  refine q_ck (by decide) ?_
  refine q_nw h2 (by decide) (by decide +kernel) (by decide +kernel) (by decide +kernel) (by decide) (by decide) (fun K3 h3 => ?_)
  refine q_sP h3 (by decide) (by decide +kernel) (fun K4 h4 => ?_)
  refine q_ck (by decide) ?_
  refine q_ck (by decide) ?_
  refine q_nw h4 (by decide) (by decide +kernel) (by decide +kernel) (by decide +kernel) (by decide) (by decide) (fun K5 h5 => ?_)
  refine q_sP h5 (by decide) (by decide +kernel) (fun K6 h6 => ?_)
  refine q_ck (by decide) ?_
  refine q_ck (by decide) ?_
  refine q_nw h6 (by decide) (by decide +kernel) (by decide +kernel) (by decide +kernel) (by decide) (by decide) (fun K7 h7 => ?_)
  refine q_sP h7 (by decide) (by decide +kernel) (fun K8 h8 => ?_)
  refine q_ck (by decide) ?_
  refine q_ck (by decide) ?_
  refine q_nw h8 (by decide) (by decide +kernel) (by decide +kernel) (by decide +kernel) (by decide) (by decide) (fun K9 h9 => ?_)
  refine q_sP h9 (by decide) (by decide +kernel) (fun K10 h10 => ?_)
  refine q_ck (by decide) ?_
  refine q_ck (by decide) ?_
  refine q_nw h10 (by decide) (by decide +kernel) (by decide +kernel) (by decide +kernel) (by decide) (by decide) (fun K11 h11 => ?_)
  refine q_sP h11 (by decide) (by decide +kernel) (fun K12 h12 => ?_)
  refine q_ck (by decide) ?_
  refine q_ck (by decide) ?_
  refine q_nw h12 (by decide) (by decide +kernel) (by decide +kernel) (by decide +kernel) (by decide) (by decide) (fun K13 h13 => ?_)
  refine q_sP h13 (by decide) (by decide +kernel) (fun K14 h14 => ?_)
  exact q_end (h14)
set_option maxRecDepth 20000 in
set_option maxHeartbeats 4000000 in
theorem ci_116 {N : Nat} (hN : 300 ≤ N) (h0 : SQ 11 11 [111, 105, 99, 93, 87, 81, 75, 69, 63, 57, 51, 45, 39, 33, 27, 21, 14] A 11 117 ((11, 4, 115) :: ((18, 15, 109) :: ((109, 14, 114) :: ((109, 12, 113) :: ((109, 11, 112) :: ((109, 8, 111) :: ((109, 7, 110) :: ((18, 14, 103) :: ((103, 14, 108) :: ((103, 12, 107) :: ((103, 11, 106) :: ((103, 8, 105) :: ((103, 7, 104) :: ((18, 13, 97) :: ((97, 14, 102) :: ((97, 12, 101) :: ((97, 11, 100) :: ((97, 8, 99) :: ((97, 7, 98) :: ((18, 12, 91) :: ((91, 14, 96) :: ((91, 12, 95) :: ((91, 11, 94) :: ((91, 8, 93) :: ((91, 7, 92) :: ((18, 11, 85) :: ((85, 14, 90) :: ((85, 12, 89) :: ((85, 11, 88) :: ((85, 8, 87) :: ((85, 7, 86) :: ((18, 10, 79) :: ((79, 14, 84) :: ((79, 12, 83) :: ((79, 11, 82) :: ((79, 8, 81) :: ((79, 7, 80) :: ((18, 9, 73) :: ((73, 14, 78) :: ((73, 12, 77) :: ((73, 11, 76) :: ((73, 8, 75) :: ((73, 7, 74) :: ((18, 8, 67) :: ((67, 14, 72) :: ((67, 12, 71) :: ((67, 11, 70) :: ((67, 8, 69) :: ((67, 7, 68) :: ((18, 7, 61) :: ((61, 14, 66) :: ((61, 12, 65) :: ((61, 11, 64) :: ((61, 8, 63) :: ((61, 7, 62) :: ((18, 6, 55) :: ((55, 14, 60) :: ((55, 12, 59) :: ((55, 11, 58) :: ((55, 8, 57) :: ((55, 7, 56) :: ((18, 5, 49) :: ((49, 14, 54) :: ((49, 12, 53) :: ((49, 11, 52) :: ((49, 8, 51) :: ((49, 7, 50) :: ((18, 4, 43) :: ((43, 14, 48) :: ((43, 12, 47) :: ((43, 11, 46) :: ((43, 8, 45) :: ((43, 7, 44) :: ((18, 3, 37) :: ((37, 14, 42) :: ((37, 12, 41) :: ((37, 11, 40) :: ((37, 8, 39) :: ((37, 7, 38) :: ((18, 2, 31) :: ((31, 14, 36) :: ((31, 12, 35) :: ((31, 11, 34) :: ((31, 8, 33) :: ((31, 7, 32) :: ((18, 1, 25) :: ((25, 14, 30) :: ((25, 12, 29) :: ((25, 11, 28) :: ((25, 8, 27) :: ((25, 7, 26) :: ((18, 0, 19) :: ((19, 14, 24) :: ((19, 12, 23) :: ((19, 11, 22) :: ((19, 8, 21) :: ((19, 7, 20) :: ((11, 6, 18) :: ((11, 0, 12) :: ((12, 14, 17) :: ((12, 12, 16) :: ((12, 11, 15) :: ((12, 8, 14) :: ((12, 7, 13) :: [])))))))))))))))))))))))))))))))))))))))))))))))))))))))))))))))))))))))))))))))))))))))))))))))))))))))) [(11, 2, 1)] (sl) H) : ∃ v H2, F_Ticker_init N 116 H = some (v, H2) ∧ SQ 11 11 [111, 105, 99, 93, 87, 81, 75, 69, 63, 57, 51, 45, 39, 33, 27, 21, 14] A 11 125 ((116, 0, 117) :: ((117, 11, 124) :: ((117, 10, 123) :: ((117, 9, 122) :: ((117, 8, 121) :: ((117, 7, 120) :: ((117, 5, 119) :: ((117, 0, 118) :: ((11, 4, 115) :: ((18, 15, 109) :: ((109, 14, 114) :: ((109, 12, 113) :: ((109, 11, 112) :: ((109, 8, 111) :: ((109, 7, 110) :: ((18, 14, 103) :: ((103, 14, 108) :: ((103, 12, 107) :: ((103, 11, 106) :: ((103, 8, 105) :: ((103, 7, 104) :: ((18, 13, 97) :: ((97, 14, 102) :: ((97, 12, 101) :: ((97, 11, 100) :: ((97, 8, 99) :: ((97, 7, 98) :: ((18, 12, 91) :: ((91, 14, 96) :: ((91, 12, 95) :: ((91, 11, 94) :: ((91, 8, 93) :: ((91, 7, 92) :: ((18, 11, 85) :: ((85, 14, 90) :: ((85, 12, 89) :: ((85, 11, 88) :: ((85, 8, 87) :: ((85, 7, 86) :: ((18, 10, 79) :: ((79, 14, 84) :: ((79, 12, 83) :: ((79, 11, 82) :: ((79, 8, 81) :: ((79, 7, 80) :: ((18, 9, 73) :: ((73, 14, 78) :: ((73, 12, 77) :: ((73, 11, 76) :: ((73, 8, 75) :: ((73, 7, 74) :: ((18, 8, 67) :: ((67, 14, 72) :: ((67, 12, 71) :: ((67, 11, 70) :: ((67, 8, 69) :: ((67, 7, 68) :: ((18, 7, 61) :: ((61, 14, 66) :: ((61, 12, 65) :: ((61, 11, 64) :: ((61, 8, 63) :: ((61, 7, 62) :: ((18, 6, 55) :: ((55, 14, 60) :: ((55, 12, 59) :: ((55, 11, 58) :: ((55, 8, 57) :: ((55, 7, 56) :: ((18, 5, 49) :: ((49, 14, 54) :: ((49, 12, 53) :: ((49, 11, 52) :: ((49, 8, 51) :: ((49, 7, 50) :: ((18, 4, 43) :: ((43, 14, 48) :: ((43, 12, 47) :: ((43, 11, 46) :: ((43, 8, 45) :: ((43, 7, 44) :: ((18, 3, 37) :: ((37, 14, 42) :: ((37, 12, 41) :: ((37, 11, 40) :: ((37, 8, 39) :: ((37, 7, 38) :: ((18, 2, 31) :: ((31, 14, 36) :: ((31, 12, 35) :: ((31, 11, 34) :: ((31, 8, 33) :: ((31, 7, 32) :: ((18, 1, 25) :: ((25, 14, 30) :: ((25, 12, 29) :: ((25, 11, 28) :: ((25, 8, 27) :: ((25, 7, 26) :: ((18, 0, 19) :: ((19, 14, 24) :: ((19, 12, 23) :: ((19, 11, 22) :: ((19, 8, 21) :: ((19, 7, 20) :: ((11, 6, 18) :: ((11, 0, 12) :: ((12, 14, 17) :: ((12, 12, 16) :: ((12, 11, 15) :: ((12, 8, 14) :: ((12, 7, 13) :: [])))))))))))))))))))))))))))))))))))))))))))))))))))))))))))))))))))))))))))))))))))))))))))))))))))))))))))))))) [(11, 2, 1)] (sl + 19 + 704 + 160 + 12 + 21 + 21 + 11 + 48) H2 := by
  unfold F_Ticker_init
  refine q_nw h0 (by decide) (by decide +kernel) (by decide +kernel) (by decide +kernel) (by decide) (by decide) (fun K1 h1 => ?_)
  refine q_call (ci_117 hN h1) (fun v2 K2 h2 => ?_)
  refine q_ck (SQ.get h2 (by decide) (by decide +kernel)) ?_
  refine q_sP h2 (by decide) (by decide +kernel) (fun K3 h3 => ?_)
  exact q_end (h3)
set_option maxRecDepth 20000 in
set_option maxHeartbeats 4000000 in
theorem ci_11 {N : Nat} (hN : 300 ≤ N) (h0 : SQ 11 11 [] A 11 12 [] [] (sl) H) : ∃ v H2, F_Play_init N 11 H = some (v, H2) ∧ SQ 11 11 [111, 105, 99, 93, 87, 81, 75, 69, 63, 57, 51, 45, 39, 33, 27, 21, 14] A 11 131 ((11, 13, 130) :: ((11, 12, 129) :: ((11, 11, 128) :: ((11, 10, 127) :: ((11, 9, 126) :: ((11, 8, 125) :: ((11, 7, 116) :: ((116, 0, 117) :: ((117, 11, 124) :: ((117, 10, 123) :: ((117, 9, 122) :: ((117, 8, 121) :: ((117, 7, 120) :: ((117, 5, 119) :: ((117, 0, 118) :: ((11, 4, 115) :: ((18, 15, 109) :: ((109, 14, 114) :: ((109, 12, 113) :: ((109, 11, 112) :: ((109, 8, 111) :: ((109, 7, 110) :: ((18, 14, 103) :: ((103, 14, 108) :: ((103, 12, 107) :: ((103, 11, 106) :: ((103, 8, 105) :: ((103, 7, 104) :: ((18, 13, 97) :: ((97, 14, 102) :: ((97, 12, 101) :: ((97, 11, 100) :: ((97, 8, 99) :: ((97, 7, 98) :: ((18, 12, 91) :: ((91, 14, 96) :: ((91, 12, 95) :: ((91, 11, 94) :: ((91, 8, 93) :: ((91, 7, 92) :: ((18, 11, 85) :: ((85, 14, 90) :: ((85, 12, 89) :: ((85, 11, 88) :: ((85, 8, 87) :: ((85, 7, 86) :: ((18, 10, 79) :: ((79, 14, 84) :: ((79, 12, 83) :: ((79, 11, 82) :: ((79, 8, 81) :: ((79, 7, 80) :: ((18, 9, 73) :: ((73, 14, 78) :: ((73, 12, 77) :: ((73, 11, 76) :: ((73, 8, 75) :: ((73, 7, 74) :: ((18, 8, 67) :: ((67, 14, 72) :: ((67, 12, 71) :: ((67, 11, 70) :: ((67, 8, 69) :: ((67, 7, 68) :: ((18, 7, 61) :: ((61, 14, 66) :: ((61, 12, 65) :: ((61, 11, 64) :: ((61, 8, 63) :: ((61, 7, 62) :: ((18, 6, 55) :: ((55, 14, 60) :: ((55, 12, 59) :: ((55, 11, 58) :: ((55, 8, 57) :: ((55, 7, 56) :: ((18, 5, 49) :: ((49, 14, 54) :: ((49, 12, 53) :: ((49, 11, 52) :: ((49, 8, 51) :: ((49, 7, 50) :: ((18, 4, 43) :: ((43, 14, 48) :: ((43, 12, 47) :: ((43, 11, 46) :: ((43, 8, 45) :: ((43, 7, 44) :: ((18, 3, 37) :: ((37, 14, 42) :: ((37, 12, 41) :: ((37, 11, 40) :: ((37, 8, 39) :: ((37, 7, 38) :: ((18, 2, 31) :: ((31, 14, 36) :: ((31, 12, 35) :: ((31, 11, 34) :: ((31, 8, 33) :: ((31, 7, 32) :: ((18, 1, 25) :: ((25, 14, 30) :: ((25, 12, 29) :: ((25, 11, 28) :: ((25, 8, 27) :: ((25, 7, 26) :: ((18, 0, 19) :: ((19, 14, 24) :: ((19, 12, 23) :: ((19, 11, 22) :: ((19, 8, 21) :: ((19, 7, 20) :: ((11, 6, 18) :: ((11, 0, 12) :: ((12, 14, 17) :: ((12, 12, 16) :: ((12, 11, 15) :: ((12, 8, 14) :: ((12, 7, 13) :: []))))))))))))))))))))))))))))))))))))))))))))))))))))))))))))))))))))))))))))))))))))))))))))))))))))))))))))))))))))))) [(11, 2, 1)] (sl + 16 + 256 + 256 + 12288 + 1792 + 32 + 16 + 16 + 256 + 256 + 12288 + 1792 + 32 + 16 + 256 + 256 + 12288 + 1792 + 32 + 16 + 256 + 256 + 12288 + 1792 + 32 + 16 + 256 + 256 + 12288 + 1792 + 32 + 16 + 256 + 256 + 12288 + 1792 + 32 + 16 + 256 + 256 + 12288 + 1792 + 32 + 16 + 256 + 256 + 12288 + 1792 + 32 + 16 + 256 + 256 + 12288 + 1792 + 32 + 16 + 256 + 256 + 12288 + 1792 + 32 + 16 + 256 + 256 + 12288 + 1792 + 32 + 16 + 256 + 256 + 12288 + 1792 + 32 + 16 + 256 + 256 + 12288 + 1792 + 32 + 16 + 256 + 256 + 12288 + 1792 + 32 + 16 + 256 + 256 + 12288 + 1792 + 32 + 16 + 256 + 256 + 12288 + 1792 + 32 + 16 + 256 + 256 + 12288 + 1792 + 32 + 256 + 3 + 19 + 704 + 160 + 12 + 21 + 21 + 11 + 48 + 256 + 256 + 4 + 16 + 64 + 4) H2 := by
  unfold F_Play_init
  refine q_nw h0 (by decide) (by decide +kernel) (by decide +kernel) (by decide +kernel) (by decide) (by decide) (fun K1 h1 => ?_)
  refine q_call (ci_12 hN h1) (fun v2 K2 h2 => ?_)
  refine q_ck (SQ.get h2 (by decide) (by decide +kernel)) ?_
  refine q_sP h2 (by decide) (by decide +kernel) (fun K3 h3 => ?_)
  refine q_ck (by decide) ?_
  refine q_ck (by decide) ?_
  refine q_nw h3 (by decide) (by decide +kernel) (by decide +kernel) (by decide +kernel) (by decide) (by decide) (fun K4 h4 => ?_)
  refine q_sP h4 (by decide) (by decide +kernel) (fun K5 h5 => ?_)
  obtain ⟨N, rfl⟩ : ∃ y, N = y + 17 := ⟨N - 17, by omega⟩
  rw [B_Play_init_26, if_neg (by decide)]
  refine q_ck (SQ.get h5 (by decide) (by decide +kernel)) ?_
  refine q_rf (t := 18) h5 (by decide +kernel) ?_
  refine q_nw h5 (by decide) (by decide +kernel) (by decide +kernel) (by decide +kernel) (by decide) (by decide) (fun K6 h6 => ?_)
  refine q_call (ci_19 hN h6) (fun v7 K7 h7 => ?_)
  rw [ar_t (SQ.get h7 (a := 18) (s := (105, 16)) (by decide) (by decide +kernel))]
  refine q_ck (by decide) ?_
  refine q_ck (SQ.get h7 (by decide) (by decide +kernel)) ?_
  refine q_sP h7 (by decide) (by decide +kernel) (fun K8 h8 => ?_)
  rw [B_Play_init_26, if_neg (by decide)]
  refine q_ck (SQ.get h8 (by decide) (by decide +kernel)) ?_
  refine q_rf (t := 18) h8 (by decide +kernel) ?_
  refine q_nw h8 (by decide) (by decide +kernel) (by decide +kernel) (by decide +kernel) (by decide) (by decide) (fun K9 h9 => ?_)
  refine q_call (ci_25 hN h9) (fun v10 K10 h10 => ?_)
  rw [ar_t (SQ.get h10 (a := 18) (s := (105, 16)) (by decide) (by decide +kernel))]
  refine q_ck (by decide) ?_
  refine q_ck (SQ.get h10 (by decide) (by decide +kernel)) ?_
  refine q_sP h10 (by decide) (by decide +kernel) (fun K11 h11 => ?_)
  rw [B_Play_init_26, if_neg (by decide)]
  refine q_ck (SQ.get h11 (by decide) (by decide +kernel)) ?_
  refine q_rf (t := 18) h11 (by decide +kernel) ?_
  refine q_nw h11 (by decide) (by decide +kernel) (by decide +kernel) (by decide +kernel) (by decide) (by decide) (fun K12 h12 => ?_)
  refine q_call (ci_31 hN h12) (fun v13 K13 h13 => ?_)
  rw [ar_t (SQ.get h13 (a := 18) (s := (105, 16)) (by decide) (by decide +kernel))]
  refine q_ck (by decide) ?_
  refine q_ck (SQ.get h13 (by decide) (by decide +kernel)) ?_
  refine q_sP h13 (by decide) (by decide +kernel) (fun K14 h14 => ?_)
  rw [B_Play_init_26, if_neg (by decide)]
  refine q_ck (SQ.get h14 (by decide) (by decide +kernel)) ?_
  refine q_rf (t := 18) h14 (by decide +kernel) ?_
  refine q_nw h14 (by decide) (by decide +kernel) (by decide +kernel) (by decide +kernel) (by decide) (by decide) (fun K15 h15 => ?_)
  refine q_call (ci_37 hN h15) (fun v16 K16 h16 => ?_)
  rw [ar_t (SQ.get h16 (a := 18) (s := (105, 16)) (by decide) (by decide +kernel))]
  refine q_ck (by decide) ?_
  refine q_ck (SQ.get h16 (by decide) (by decide +kernel)) ?_
  refine q_sP h16 (by decide) (by decide +kernel) (fun K17 h17 => ?_)
  rw [B_Play_init_26, if_neg (by decide)]
  refine q_ck (SQ.get h17 (by decide) (by decide +kernel)) ?_
  refine q_rf (t := 18) h17 (by decide +kernel) ?_
  refine q_nw h17 (by decide) (by decide +kernel) (by decide +kernel) (by decide +kernel) (by decide) (by decide) (fun K18 h18 => ?_)
  refine q_call (ci_43 hN h18) (fun v19 K19 h19 => ?_)
  rw [ar_t (SQ.get h19 (a := 18) (s := (105, 16)) (by decide) (by decide +kernel))]
  refine q_ck (by decide) ?_
  refine q_ck (SQ.get h19 (by decide) (by decide +kernel)) ?_
  refine q_sP h19 (by decide) (by decide +kernel) (fun K20 h20 => ?_)
  rw [B_Play_init_26, if_neg (by decide)]
  refine q_ck (SQ.get h20 (by decide) (by decide +kernel)) ?_
  refine q_rf (t := 18) h20 (by decide +kernel) ?_
  refine q_nw h20 (by decide) (by decide +kernel) (by decide +kernel) (by decide +kernel) (by decide) (by decide) (fun K21 h21 => ?_)
  refine q_call (ci_49 hN h21) (fun v22 K22 h22 => ?_)
  rw [ar_t (SQ.get h22 (a := 18) (s := (105, 16)) (by decide) (by decide +kernel))]
  refine q_ck (by decide) ?_
  refine q_ck (SQ.get h22 (by decide) (by decide +kernel)) ?_
  refine q_sP h22 (by decide) (by decide +kernel) (fun K23 h23 => ?_)
  rw [B_Play_init_26, if_neg (by decide)]
  refine q_ck (SQ.get h23 (by decide) (by decide +kernel)) ?_
  refine q_rf (t := 18) h23 (by decide +kernel) ?_
  refine q_nw h23 (by decide) (by decide +kernel) (by decide +kernel) (by decide +kernel) (by decide) (by decide) (fun K24 h24 => ?_)
  refine q_call (ci_55 hN h24) (fun v25 K25 h25 => ?_)
  rw [ar_t (SQ.get h25 (a := 18) (s := (105, 16)) (by decide) (by decide +kernel))]
  refine q_ck (by decide) ?_
  refine q_ck (SQ.get h25 (by decide) (by decide +kernel)) ?_
  refine q_sP h25 (by decide) (by decide +kernel) (fun K26 h26 => ?_)
  rw [B_Play_init_26, if_neg (by decide)]
  refine q_ck (SQ.get h26 (by decide) (by decide +kernel)) ?_
  refine q_rf (t := 18) h26 (by decide +kernel) ?_
  refine q_nw h26 (by decide) (by decide +kernel) (by decide +kernel) (by decide +kernel) (by decide) (by decide) (fun K27 h27 => ?_)
  refine q_call (ci_61 hN h27) (fun v28 K28 h28 => ?_)
  rw [ar_t (SQ.get h28 (a := 18) (s := (105, 16)) (by decide) (by decide +kernel))]
  refine q_ck (by decide) ?_
  refine q_ck (SQ.get h28 (by decide) (by decide +kernel)) ?_
  refine q_sP h28 (by decide) (by decide +kernel) (fun K29 h29 => ?_)
  rw [B_Play_init_26, if_neg (by decide)]
  refine q_ck (SQ.get h29 (by decide) (by decide +kernel)) ?_
  refine q_rf (t := 18) h29 (by decide +kernel) ?_
  refine q_nw h29 (by decide) (by decide +kernel) (by decide +kernel) (by decide +kernel) (by decide) (by decide) (fun K30 h30 => ?_)
  refine q_call (ci_67 hN h30) (fun v31 K31 h31 => ?_)
  rw [ar_t (SQ.get h31 (a := 18) (s := (105, 16)) (by decide) (by decide +kernel))]
  refine q_ck (by decide) ?_
  refine q_ck (SQ.get h31 (by decide) (by decide +kernel)) ?_
  refine q_sP h31 (by decide) (by decide +kernel) (fun K32 h32 => ?_)
  rw [B_Play_init_26, if_neg (by decide)]
  refine q_ck (SQ.get h32 (by decide) (by decide +kernel)) ?_
  refine q_rf (t := 18) h32 (by decide +kernel) ?_
  refine q_nw h32 (by decide) (by decide +kernel) (by decide +kernel) (by decide +kernel) (by decide) (by decide) (fun K33 h33 => ?_)
  refine q_call (ci_73 hN h33) (fun v34 K34 h34 => ?_)
  rw [ar_t (SQ.get h34 (a := 18) (s := (105, 16)) (by decide) (by decide +kernel))]
  refine q_ck (by decide) ?_
  refine q_ck (SQ.get h34 (by decide) (by decide +kernel)) ?_
  refine q_sP h34 (by decide) (by decide +kernel) (fun K35 h35 => ?_)
  rw [B_Play_init_26, if_neg (by decide)]
  refine q_ck (SQ.get h35 (by decide) (by decide +kernel)) ?_
  refine q_rf (t := 18) h35 (by decide +kernel) ?_
  refine q_nw h35 (by decide) (by decide +kernel) (by decide +kernel) (by decide +kernel) (by decide) (by decide) (fun K36 h36 => ?_)
  refine q_call (ci_79 hN h36) (fun v37 K37 h37 => ?_)
  rw [ar_t (SQ.get h37 (a := 18) (s := (105, 16)) (by decide) (by decide +kernel))]
  refine q_ck (by decide) ?_
  refine q_ck (SQ.get h37 (by decide) (by decide +kernel)) ?_
  refine q_sP h37 (by decide) (by decide +kernel) (fun K38 h38 => ?_)
  rw [B_Play_init_26, if_neg (by decide)]
  refine q_ck (SQ.get h38 (by decide) (by decide +kernel)) ?_
  refine q_rf (t := 18) h38 (by decide +kernel) ?_
  refine q_nw h38 (by decide) (by decide +kernel) (by decide +kernel) (by decide +kernel) (by decide) (by decide) (fun K39 h39 => ?_)
  refine q_call (ci_85 hN h39) (fun v40 K40 h40 => ?_)
  rw [ar_t (SQ.get h40 (a := 18) (s := (105, 16)) (by decide) (by decide +kernel))]
  refine q_ck (by decide) ?_
  refine q_ck (SQ.get h40 (by decide) (by decide +kernel)) ?_
  refine q_sP h40 (by decide) (by decide +kernel) (fun K41 h41 => ?_)
  rw [B_Play_init_26, if_neg (by decide)]
  refine q_ck (SQ.get h41 (by decide) (by decide +kernel)) ?_
  refine q_rf (t := 18) h41 (by decide +kernel) ?_
  refine q_nw h41 (by decide) (by decide +kernel) (by decide +kernel) (by decide +kernel) (by decide) (by decide) (fun K42 h42 => ?_)
  refine q_call (ci_91 hN h42) (fun v43 K43 h43 => ?_)
  rw [ar_t (SQ.get h43 (a := 18) (s := (105, 16)) (by decide) (by decide +kernel))]
  refine q_ck (by decide) ?_
  refine q_ck (SQ.get h43 (by decide) (by decide +kernel)) ?_
  refine q_sP h43 (by decide) (by decide +kernel) (fun K44 h44 => ?_)
  rw [B_Play_init_26, if_neg (by decide)]
  refine q_ck (SQ.get h44 (by decide) (by decide +kernel)) ?_
  refine q_rf (t := 18) h44 (by decide +kernel) ?_
  refine q_nw h44 (by decide) (by decide +kernel) (by decide +kernel) (by decide +kernel) (by decide) (by decide) (fun K45 h45 => ?_)
  refine q_call (ci_97 hN h45) (fun v46 K46 h46 => ?_)
  rw [ar_t (SQ.get h46 (a := 18) (s := (105, 16)) (by decide) (by decide +kernel))]
  refine q_ck (by decide) ?_
  refine q_ck (SQ.get h46 (by decide) (by decide +kernel)) ?_
  refine q_sP h46 (by decide) (by decide +kernel) (fun K47 h47 => ?_)
  rw [B_Play_init_26, if_neg (by decide)]
  refine q_ck (SQ.get h47 (by decide) (by decide +kernel)) ?_
  refine q_rf (t := 18) h47 (by decide +kernel) ?_
  refine q_nw h47 (by decide) (by decide +kernel) (by decide +kernel) (by decide +kernel) (by decide) (by decide) (fun K48 h48 => ?_)
  refine q_call (ci_103 hN h48) (fun v49 K49 h49 => ?_)
  rw [ar_t (SQ.get h49 (a := 18) (s := (105, 16)) (by decide) (by decide +kernel))]
  refine q_ck (by decide) ?_
  refine q_ck (SQ.get h49 (by decide) (by decide +kernel)) ?_
  refine q_sP h49 (by decide) (by decide +kernel) (fun K50 h50 => ?_)
  rw [B_Play_init_26, if_neg (by decide)]
  refine q_ck (SQ.get h50 (by decide) (by decide +kernel)) ?_
  refine q_rf (t := 18) h50 (by decide +kernel) ?_
  refine q_nw h50 (by decide) (by decide +kernel) (by decide +kernel) (by decide +kernel) (by decide) (by decide) (fun K51 h51 => ?_)
  refine q_call (ci_109 hN h51) (fun v52 K52 h52 => ?_)
  rw [ar_t (SQ.get h52 (a := 18) (s := (105, 16)) (by decide) (by decide +kernel))]
  refine q_ck (by decide) ?_
  refine q_ck (SQ.get h52 (by decide) (by decide +kernel)) ?_
  refine q_sP h52 (by decide) (by decide +kernel) (fun K53 h53 => ?_)
  rw [B_Play_init_26, if_pos (by decide)]
  refine q_ck (SQ.get h53 (by decide) (by decide +kernel)) ?_
  refine q_sD h53 (by decide) (by decide +kernel) (by decide) (fun K54 h54 => ?_)
  refine q_ck (by decide) ?_
  refine q_ck (by decide) ?_
  refine q_nw h54 (by decide) (by decide +kernel) (by decide +kernel) (by decide +kernel) (by decide) (by decide) (fun K55 h55 => ?_)
  refine q_sP h55 (by decide) (by decide +kernel) (fun K56 h56 => ?_)
  refine q_nw h56 (by decide) (by decide +kernel) (by decide +kernel) (by decide +kernel) (by decide) (by decide) (fun K57 h57 => ?_)
  refine q_call (ci_116 hN h57) (fun v58 K58 h58 => ?_)
  refine q_sP h58 (by decide) (by decide +kernel) (fun K59 h59 => ?_)
  refine q_ck (by decide) ?_
  refine q_ck (by decide) ?_
  refine q_nw h59 (by decide) (by decide +kernel) (by decide +kernel) (by decide +kernel) (by decide) (by decide) (fun K60 h60 => ?_)
  refine q_sP h60 (by decide) (by decide +kernel) (fun K61 h61 => ?_)
  refine q_ck (by decide) ?_
  refine q_ck (by decide) ?_
  refine q_nw h61 (by decide) (by decide +kernel) (by decide +kernel) (by decide +kernel) (by decide) (by decide) (fun K62 h62 => ?_)
  refine q_sP h62 (by decide) (by decide +kernel) (fun K63 h63 => ?_)
  refine q_ck (by decide) ?_
  refine q_ck (by decide) ?_
  refine q_nw h63 (by decide) (by decide +kernel) (by decide +kernel) (by decide +kernel) (by decide) (by decide) (fun K64 h64 => ?_)
  refine q_sP h64 (by decide) (by decide +kernel) (fun K65 h65 => ?_)
  refine q_ck (by decide) ?_
  refine q_ck (by decide) ?_
  refine q_nw h65 (by decide) (by decide +kernel) (by decide +kernel) (by decide +kernel) (by decide) (by decide) (fun K66 h66 => ?_)
  refine q_sP h66 (by decide) (by decide +kernel) (fun K67 h67 => ?_)
  refine q_ck (by decide) ?_
  refine q_ck (by decide) ?_
  refine q_nw h67 (by decide) (by decide +kernel) (by decide +kernel) (by decide +kernel) (by decide) (by decide) (fun K68 h68 => ?_)
  refine q_sP h68 (by decide) (by decide +kernel) (fun K69 h69 => ?_)
  refine q_ck (by decide) ?_
  refine q_ck (by decide) ?_
  refine q_nw h69 (by decide) (by decide +kernel) (by decide +kernel) (by decide +kernel) (by decide) (by decide) (fun K70 h70 => ?_)
  refine q_sP h70 (by decide) (by decide +kernel) (fun K71 h71 => ?_)
  exact q_end (h71)
set_option maxRecDepth 20000 in
set_option maxHeartbeats 4000000 in
theorem ci_9 {N : Nat} (hN : 300 ≤ N) (h0 : SQ 8 8 [] A 8 10 ((8, 0, 1) :: []) [] (sl) H) : ∃ v H2, F_Body_init N 9 1 H = some (v, H2) ∧ SQ 8 8 [] A 8 11 ((9, 4, 10) :: ((9, 0, 1) :: ((8, 0, 1) :: []))) [] (sl + 21) H2 := by
  unfold F_Body_init
  refine q_ck (SQ.get h0 (by decide) (by decide +kernel)) ?_
  refine q_sP h0 (by decide) (by decide +kernel) (fun K1 h1 => ?_)
  refine q_ck (by decide) ?_
  refine q_ck (by decide) ?_
  refine q_nw h1 (by decide) (by decide +kernel) (by decide +kernel) (by decide +kernel) (by decide) (by decide) (fun K2 h2 => ?_)
  refine q_sP h2 (by decide) (by decide +kernel) (fun K3 h3 => ?_)
  exact q_end (h3)
set_option maxRecDepth 20000 in
set_option maxHeartbeats 4000000 in
theorem ci_8 {N : Nat} (hN : 300 ≤ N) (h0 : SQ 8 8 [] A 8 9 [] [] (sl) H) : ∃ v H2, F_Reader_init N 8 1 H = some (v, H2) ∧ SQ 8 8 [] A 8 11 ((8, 1, 9) :: ((9, 4, 10) :: ((9, 0, 1) :: ((8, 0, 1) :: [])))) [] (sl + 7 + 21) H2 := by
  unfold F_Reader_init
  refine q_ck (SQ.get h0 (by decide) (by decide +kernel)) ?_
  refine q_sP h0 (by decide) (by decide +kernel) (fun K1 h1 => ?_)
  refine q_nw h1 (by decide) (by decide +kernel) (by decide +kernel) (by decide +kernel) (by decide) (by decide) (fun K2 h2 => ?_)
  refine q_call (ci_9 hN h2) (fun v3 K3 h3 => ?_)
  refine q_sP h3 (by decide) (by decide +kernel) (fun K4 h4 => ?_)
  exact q_end (h4)
set_option maxRecDepth 20000 in
set_option maxHeartbeats 4000000 in
theorem ci_131 {N : Nat} (hN : 300 ≤ N) (h0 : SQ 131 131 [] A 131 132 [] [] (sl) H) : ∃ v H2, F_Store_init N 131 H = some (v, H2) ∧ SQ 131 131 [] A 131 133 ((131, 0, 132) :: []) [] (sl + 60000) H2 := by
  unfold F_Store_init
  refine q_ck (by decide) ?_
  refine q_ck (by decide) ?_
  refine q_nw h0 (by decide) (by decide +kernel) (by decide +kernel) (by decide +kernel) (by decide) (by decide) (fun K1 h1 => ?_)
  refine q_ck (SQ.get h1 (by decide) (by decide +kernel)) ?_
  refine q_sP h1 (by decide) (by decide +kernel) (fun K2 h2 => ?_)
  exact q_end (h2)
theorem rows_134_68 : ∀ x : Fin 68, sh0[135 + x.val]? = some (2, 0) := by decide +kernel
theorem rows_204_16 : ∀ x : Fin 16, sh0[205 + x.val]? = some (2, 0) := by decide +kernel
theorem rows_221_48 : ∀ x : Fin 48, sh0[222 + x.val]? = some (2, 0) := by decide +kernel
set_option maxRecDepth 20000 in
set_option maxHeartbeats 4000000 in
theorem ci_203 {N : Nat} (hN : 300 ≤ N) (h0 : SQ 133 133 [] A 133 204 ((133, 0, 134) :: (((List.range 68).map fun x => (134, 0 + x, 134 + 1 + x)) ++ [])) [] (sl) H) : ∃ v H2, F_Shapes_init N 203 16 48 H = some (v, H2) ∧ SQ 133 133 [] A 133 271 ((203, 2, 270) :: ((203, 1, 221) :: (((List.range 48).map fun x => (221, 0 + x, 221 + 1 + x)) ++ ((203, 0, 204) :: (((List.range 16).map fun x => (204, 0 + x, 204 + 1 + x)) ++ ((133, 0, 134) :: (((List.range 68).map fun x => (134, 0 + x, 134 + 1 + x)) ++ []))))))) [] (sl + 16 + 4 * 16 + 48 + 4 * 48 + 17) H2 := by
  unfold F_Shapes_init
  refine q_call (F := F_Named_rowOf N (16 : Int32) _) (q_rowOf (cn := 16) hN (by decide) h0 (by decide) (by decide +kernel) (fun x y1 y2 => by have := rows_204_16 ⟨x - 205, by omega⟩; rw [show 205 + (x - 205) = x by omega] at this; exact this) (by decide +kernel) (by decide +kernel) (by decide) (by decide)) (fun v1 K1 h1 => ?_)
  obtain ⟨rfl, h1⟩ := h1
  refine q_on ?_
  refine q_ck (SQ.get h1 (by decide) (by decide +kernel)) ?_
  refine q_sP h1 (by decide) (by decide +kernel) (fun K2 h2 => ?_)
  refine q_call (F := F_Named_rowOf N (48 : Int32) _) (q_rowOf (cn := 48) hN (by decide) h2 (by decide) (by decide +kernel) (fun x y1 y2 => by have := rows_221_48 ⟨x - 222, by omega⟩; rw [show 222 + (x - 222) = x by omega] at this; exact this) (by decide +kernel) (by decide +kernel) (by decide) (by decide)) (fun v3 K3 h3 => ?_)
  obtain ⟨rfl, h3⟩ := h3
  refine q_on ?_
  refine q_sP h3 (by decide) (by decide +kernel) (fun K4 h4 => ?_)
  rw [mx0 (show (0 : Int32) < 16 by decide), bC_v]
  refine q_ck (by decide) ?_
  refine q_ck (by decide) ?_
  refine q_nw h4 (by decide) (by decide +kernel) (by decide +kernel) (by decide +kernel) (by decide) (by decide) (fun K5 h5 => ?_)
  refine q_sP h5 (by decide) (by decide +kernel) (fun K6 h6 => ?_)
  exact q_end (h6)
theorem rows_272_8 : ∀ x : Fin 8, sh0[273 + x.val]? = some (2, 0) := by decide +kernel
theorem rows_281_32 : ∀ x : Fin 32, sh0[282 + x.val]? = some (2, 0) := by decide +kernel
set_option maxRecDepth 20000 in
set_option maxHeartbeats 4000000 in
theorem ci_271 {N : Nat} (hN : 300 ≤ N) (h0 : SQ 133 133 [] A 133 272 ((133, 2, 203) :: ((203, 2, 270) :: ((203, 1, 221) :: (((List.range 48).map fun x => (221, 0 + x, 221 + 1 + x)) ++ ((203, 0, 204) :: (((List.range 16).map fun x => (204, 0 + x, 204 + 1 + x)) ++ ((133, 0, 134) :: (((List.range 68).map fun x => (134, 0 + x, 134 + 1 + x)) ++ [])))))))) [] (sl) H) : ∃ v H2, F_Shapes_init N 271 8 32 H = some (v, H2) ∧ SQ 133 133 [] A 133 315 ((271, 2, 314) :: ((271, 1, 281) :: (((List.range 32).map fun x => (281, 0 + x, 281 + 1 + x)) ++ ((271, 0, 272) :: (((List.range 8).map fun x => (272, 0 + x, 272 + 1 + x)) ++ ((133, 2, 203) :: ((203, 2, 270) :: ((203, 1, 221) :: (((List.range 48).map fun x => (221, 0 + x, 221 + 1 + x)) ++ ((203, 0, 204) :: (((List.range 16).map fun x => (204, 0 + x, 204 + 1 + x)) ++ ((133, 0, 134) :: (((List.range 68).map fun x => (134, 0 + x, 134 + 1 + x)) ++ []))))))))))))) [] (sl + 8 + 4 * 8 + 32 + 4 * 32 + 9) H2 := by
  unfold F_Shapes_init
  refine q_call (F := F_Named_rowOf N (8 : Int32) _) (q_rowOf (cn := 8) hN (by decide) h0 (by decide) (by decide +kernel) (fun x y1 y2 => by have := rows_272_8 ⟨x - 273, by omega⟩; rw [show 273 + (x - 273) = x by omega] at this; exact this) (by decide +kernel) (by decide +kernel) (by decide) (by decide)) (fun v1 K1 h1 => ?_)
  obtain ⟨rfl, h1⟩ := h1
  refine q_on ?_
  refine q_ck (SQ.get h1 (by decide) (by decide +kernel)) ?_
  refine q_sP h1 (by decide) (by decide +kernel) (fun K2 h2 => ?_)
  refine q_call (F := F_Named_rowOf N (32 : Int32) _) (q_rowOf (cn := 32) hN (by decide) h2 (by decide) (by decide +kernel) (fun x y1 y2 => by have := rows_281_32 ⟨x - 282, by omega⟩; rw [show 282 + (x - 282) = x by omega] at this; exact this) (by decide +kernel) (by decide +kernel) (by decide) (by decide)) (fun v3 K3 h3 => ?_)
  obtain ⟨rfl, h3⟩ := h3
  refine q_on ?_
  refine q_sP h3 (by decide) (by decide +kernel) (fun K4 h4 => ?_)
  rw [mx0 (show (0 : Int32) < 8 by decide), bC_v]
  refine q_ck (by decide) ?_
  refine q_ck (by decide) ?_
  refine q_nw h4 (by decide) (by decide +kernel) (by decide +kernel) (by decide +kernel) (by decide) (by decide) (fun K5 h5 => ?_)
  refine q_sP h5 (by decide) (by decide +kernel) (fun K6 h6 => ?_)
  exact q_end (h6)
set_option maxRecDepth 20000 in
set_option maxHeartbeats 4000000 in
theorem ci_133 {N : Nat} (hN : 300 ≤ N) (h0 : SQ 133 133 [] A 133 134 [] [] (sl) H) : ∃ v H2, F_Program_init N 133 H = some (v, H2) ∧ SQ 133 133 [] A 133 325 ((133, 16, 324) :: ((133, 14, 323) :: ((133, 13, 322) :: ((133, 12, 321) :: ((133, 11, 320) :: ((133, 10, 319) :: ((133, 9, 318) :: ((133, 8, 317) :: ((133, 6, 316) :: ((133, 5, 315) :: ((133, 3, 271) :: ((271, 2, 314) :: ((271, 1, 281) :: (((List.range 32).map fun x => (281, 0 + x, 281 + 1 + x)) ++ ((271, 0, 272) :: (((List.range 8).map fun x => (272, 0 + x, 272 + 1 + x)) ++ ((133, 2, 203) :: ((203, 2, 270) :: ((203, 1, 221) :: (((List.range 48).map fun x => (221, 0 + x, 221 + 1 + x)) ++ ((203, 0, 204) :: (((List.range 16).map fun x => (204, 0 + x, 204 + 1 + x)) ++ ((133, 0, 134) :: (((List.range 68).map fun x => (134, 0 + x, 134 + 1 + x)) ++ [])))))))))))))))))))))))) [] (sl + 68 + 4 * 68 + 4 + 16 + 4 * 16 + 48 + 4 * 48 + 17 + 4 + 8 + 4 * 8 + 32 + 4 * 32 + 9 + 16 + 768 + 16 + 16 + 16 + 16 + 16 + 16 + 16 + 12000) H2 := by
  unfold F_Program_init
  refine q_call (F := F_Named_rowOf N (68 : Int32) _) (q_rowOf (cn := 68) hN (by decide) h0 (by decide) (by decide +kernel) (fun x y1 y2 => by have := rows_134_68 ⟨x - 135, by omega⟩; rw [show 135 + (x - 135) = x by omega] at this; exact this) (by decide +kernel) (by decide +kernel) (by decide) (by decide)) (fun v1 K1 h1 => ?_)
  obtain ⟨rfl, h1⟩ := h1
  refine q_on ?_
  refine q_ck (SQ.get h1 (by decide) (by decide +kernel)) ?_
  refine q_sP h1 (by decide) (by decide +kernel) (fun K2 h2 => ?_)
  refine q_nw h2 (by decide) (by decide +kernel) (by decide +kernel) (by decide +kernel) (by decide) (by decide) (fun K3 h3 => ?_)
  refine q_call (ci_203 hN h3) (fun v4 K4 h4 => ?_)
  refine q_sP h4 (by decide) (by decide +kernel) (fun K5 h5 => ?_)
  refine q_nw h5 (by decide) (by decide +kernel) (by decide +kernel) (by decide +kernel) (by decide) (by decide) (fun K6 h6 => ?_)
  refine q_call (ci_271 hN h6) (fun v7 K7 h7 => ?_)
  refine q_sP h7 (by decide) (by decide +kernel) (fun K8 h8 => ?_)
  refine q_ck (by decide) ?_
  refine q_ck (by decide) ?_
  refine q_nw h8 (by decide) (by decide +kernel) (by decide +kernel) (by decide +kernel) (by decide) (by decide) (fun K9 h9 => ?_)
  refine q_sP h9 (by decide) (by decide +kernel) (fun K10 h10 => ?_)
  refine q_ck (by decide) ?_
  refine q_ck (by decide) ?_
  refine q_nw h10 (by decide) (by decide +kernel) (by decide +kernel) (by decide +kernel) (by decide) (by decide) (fun K11 h11 => ?_)
  refine q_sP h11 (by decide) (by decide +kernel) (fun K12 h12 => ?_)
  refine q_ck (by decide) ?_
  refine q_ck (by decide) ?_
  refine q_nw h12 (by decide) (by decide +kernel) (by decide +kernel) (by decide +kernel) (by decide) (by decide) (fun K13 h13 => ?_)
  refine q_sP h13 (by decide) (by decide +kernel) (fun K14 h14 => ?_)
  refine q_ck (by decide) ?_
  refine q_ck (by decide) ?_
  refine q_nw h14 (by decide) (by decide +kernel) (by decide +kernel) (by decide +kernel) (by decide) (by decide) (fun K15 h15 => ?_)
  refine q_sP h15 (by decide) (by decide +kernel) (fun K16 h16 => ?_)
  refine q_ck (by decide) ?_
  refine q_ck (by decide) ?_
  refine q_nw h16 (by decide) (by decide +kernel) (by decide +kernel) (by decide +kernel) (by decide) (by decide) (fun K17 h17 => ?_)
  refine q_sP h17 (by decide) (by decide +kernel) (fun K18 h18 => ?_)
  refine q_ck (by decide) ?_
  refine q_ck (by decide) ?_
  refine q_nw h18 (by decide) (by decide +kernel) (by decide +kernel) (by decide +kernel) (by decide) (by decide) (fun K19 h19 => ?_)
  refine q_sP h19 (by decide) (by decide +kernel) (fun K20 h20 => ?_)
  refine q_ck (by decide) ?_
  refine q_ck (by decide) ?_
  refine q_nw h20 (by decide) (by decide +kernel) (by decide +kernel) (by decide +kernel) (by decide) (by decide) (fun K21 h21 => ?_)
  refine q_sP h21 (by decide) (by decide +kernel) (fun K22 h22 => ?_)
  refine q_ck (by decide) ?_
  refine q_ck (by decide) ?_
  refine q_nw h22 (by decide) (by decide +kernel) (by decide +kernel) (by decide +kernel) (by decide) (by decide) (fun K23 h23 => ?_)
  refine q_sP h23 (by decide) (by decide +kernel) (fun K24 h24 => ?_)
  refine q_ck (by decide) ?_
  refine q_ck (by decide) ?_
  refine q_nw h24 (by decide) (by decide +kernel) (by decide +kernel) (by decide +kernel) (by decide) (by decide) (fun K25 h25 => ?_)
  refine q_sP h25 (by decide) (by decide +kernel) (fun K26 h26 => ?_)
  refine q_ck (by decide) ?_
  refine q_ck (by decide) ?_
  refine q_nw h26 (by decide) (by decide +kernel) (by decide +kernel) (by decide +kernel) (by decide) (by decide) (fun K27 h27 => ?_)
  refine q_sP h27 (by decide) (by decide +kernel) (fun K28 h28 => ?_)
  exact q_end (h28)
theorem rows_326_68 : ∀ x : Fin 68, sh0[327 + x.val]? = some (2, 0) := by decide +kernel
theorem rows_396_16 : ∀ x : Fin 16, sh0[397 + x.val]? = some (2, 0) := by decide +kernel
theorem rows_413_48 : ∀ x : Fin 48, sh0[414 + x.val]? = some (2, 0) := by decide +kernel
set_option maxRecDepth 20000 in
set_option maxHeartbeats 4000000 in
theorem ci_395 {N : Nat} (hN : 300 ≤ N) (h0 : SQ 325 325 [] A 325 396 ((325, 0, 326) :: (((List.range 68).map fun x => (326, 0 + x, 326 + 1 + x)) ++ [])) [] (sl) H) : ∃ v H2, F_Shapes_init N 395 16 48 H = some (v, H2) ∧ SQ 325 325 [] A 325 463 ((395, 2, 462) :: ((395, 1, 413) :: (((List.range 48).map fun x => (413, 0 + x, 413 + 1 + x)) ++ ((395, 0, 396) :: (((List.range 16).map fun x => (396, 0 + x, 396 + 1 + x)) ++ ((325, 0, 326) :: (((List.range 68).map fun x => (326, 0 + x, 326 + 1 + x)) ++ []))))))) [] (sl + 16 + 4 * 16 + 48 + 4 * 48 + 17) H2 := by
  unfold F_Shapes_init
  refine q_call (F := F_Named_rowOf N (16 : Int32) _) (q_rowOf (cn := 16) hN (by decide) h0 (by decide) (by decide +kernel) (fun x y1 y2 => by have := rows_396_16 ⟨x - 397, by omega⟩; rw [show 397 + (x - 397) = x by omega] at this; exact this) (by decide +kernel) (by decide +kernel) (by decide) (by decide)) (fun v1 K1 h1 => ?_)
  obtain ⟨rfl, h1⟩ := h1
  refine q_on ?_
  refine q_ck (SQ.get h1 (by decide) (by decide +kernel)) ?_
  refine q_sP h1 (by decide) (by decide +kernel) (fun K2 h2 => ?_)
  refine q_call (F := F_Named_rowOf N (48 : Int32) _) (q_rowOf (cn := 48) hN (by decide) h2 (by decide) (by decide +kernel) (fun x y1 y2 => by have := rows_413_48 ⟨x - 414, by omega⟩; rw [show 414 + (x - 414) = x by omega] at this; exact this) (by decide +kernel) (by decide +kernel) (by decide) (by decide)) (fun v3 K3 h3 => ?_)
  obtain ⟨rfl, h3⟩ := h3
  refine q_on ?_
  refine q_sP h3 (by decide) (by decide +kernel) (fun K4 h4 => ?_)
  rw [mx0 (show (0 : Int32) < 16 by decide), bC_v]
  refine q_ck (by decide) ?_
  refine q_ck (by decide) ?_
  refine q_nw h4 (by decide) (by decide +kernel) (by decide +kernel) (by decide +kernel) (by decide) (by decide) (fun K5 h5 => ?_)
  refine q_sP h5 (by decide) (by decide +kernel) (fun K6 h6 => ?_)
  exact q_end (h6)
theorem rows_464_8 : ∀ x : Fin 8, sh0[465 + x.val]? = some (2, 0) := by decide +kernel
theorem rows_473_32 : ∀ x : Fin 32, sh0[474 + x.val]? = some (2, 0) := by decide +kernel
set_option maxRecDepth 20000 in
set_option maxHeartbeats 4000000 in
theorem ci_463 {N : Nat} (hN : 300 ≤ N) (h0 : SQ 325 325 [] A 325 464 ((325, 2, 395) :: ((395, 2, 462) :: ((395, 1, 413) :: (((List.range 48).map fun x => (413, 0 + x, 413 + 1 + x)) ++ ((395, 0, 396) :: (((List.range 16).map fun x => (396, 0 + x, 396 + 1 + x)) ++ ((325, 0, 326) :: (((List.range 68).map fun x => (326, 0 + x, 326 + 1 + x)) ++ [])))))))) [] (sl) H) : ∃ v H2, F_Shapes_init N 463 8 32 H = some (v, H2) ∧ SQ 325 325 [] A 325 507 ((463, 2, 506) :: ((463, 1, 473) :: (((List.range 32).map fun x => (473, 0 + x, 473 + 1 + x)) ++ ((463, 0, 464) :: (((List.range 8).map fun x => (464, 0 + x, 464 + 1 + x)) ++ ((325, 2, 395) :: ((395, 2, 462) :: ((395, 1, 413) :: (((List.range 48).map fun x => (413, 0 + x, 413 + 1 + x)) ++ ((395, 0, 396) :: (((List.range 16).map fun x => (396, 0 + x, 396 + 1 + x)) ++ ((325, 0, 326) :: (((List.range 68).map fun x => (326, 0 + x, 326 + 1 + x)) ++ []))))))))))))) [] (sl + 8 + 4 * 8 + 32 + 4 * 32 + 9) H2 := by
  unfold F_Shapes_init
  refine q_call (F := F_Named_rowOf N (8 : Int32) _) (q_rowOf (cn := 8) hN (by decide) h0 (by decide) (by decide +kernel) (fun x y1 y2 => by have := rows_464_8 ⟨x - 465, by omega⟩; rw [show 465 + (x - 465) = x by omega] at this; exact this) (by decide +kernel) (by decide +kernel) (by decide) (by decide)) (fun v1 K1 h1 => ?_)
  obtain ⟨rfl, h1⟩ := h1
  refine q_on ?_
  refine q_ck (SQ.get h1 (by decide) (by decide +kernel)) ?_
  refine q_sP h1 (by decide) (by decide +kernel) (fun K2 h2 => ?_)
  refine q_call (F := F_Named_rowOf N (32 : Int32) _) (q_rowOf (cn := 32) hN (by decide) h2 (by decide) (by decide +kernel) (fun x y1 y2 => by have := rows_473_32 ⟨x - 474, by omega⟩; rw [show 474 + (x - 474) = x by omega] at this; exact this) (by decide +kernel) (by decide +kernel) (by decide) (by decide)) (fun v3 K3 h3 => ?_)
  obtain ⟨rfl, h3⟩ := h3
  refine q_on ?_
  refine q_sP h3 (by decide) (by decide +kernel) (fun K4 h4 => ?_)
  rw [mx0 (show (0 : Int32) < 8 by decide), bC_v]
  refine q_ck (by decide) ?_
  refine q_ck (by decide) ?_
  refine q_nw h4 (by decide) (by decide +kernel) (by decide +kernel) (by decide +kernel) (by decide) (by decide) (fun K5 h5 => ?_)
  refine q_sP h5 (by decide) (by decide +kernel) (fun K6 h6 => ?_)
  exact q_end (h6)
set_option maxRecDepth 20000 in
set_option maxHeartbeats 4000000 in
theorem ci_325 {N : Nat} (hN : 300 ≤ N) (h0 : SQ 325 325 [] A 325 326 [] [] (sl) H) : ∃ v H2, F_Program_init N 325 H = some (v, H2) ∧ SQ 325 325 [] A 325 517 ((325, 16, 516) :: ((325, 14, 515) :: ((325, 13, 514) :: ((325, 12, 513) :: ((325, 11, 512) :: ((325, 10, 511) :: ((325, 9, 510) :: ((325, 8, 509) :: ((325, 6, 508) :: ((325, 5, 507) :: ((325, 3, 463) :: ((463, 2, 506) :: ((463, 1, 473) :: (((List.range 32).map fun x => (473, 0 + x, 473 + 1 + x)) ++ ((463, 0, 464) :: (((List.range 8).map fun x => (464, 0 + x, 464 + 1 + x)) ++ ((325, 2, 395) :: ((395, 2, 462) :: ((395, 1, 413) :: (((List.range 48).map fun x => (413, 0 + x, 413 + 1 + x)) ++ ((395, 0, 396) :: (((List.range 16).map fun x => (396, 0 + x, 396 + 1 + x)) ++ ((325, 0, 326) :: (((List.range 68).map fun x => (326, 0 + x, 326 + 1 + x)) ++ [])))))))))))))))))))))))) [] (sl + 68 + 4 * 68 + 4 + 16 + 4 * 16 + 48 + 4 * 48 + 17 + 4 + 8 + 4 * 8 + 32 + 4 * 32 + 9 + 16 + 768 + 16 + 16 + 16 + 16 + 16 + 16 + 16 + 12000) H2 := by
  unfold F_Program_init
  refine q_call (F := F_Named_rowOf N (68 : Int32) _) (q_rowOf (cn := 68) hN (by decide) h0 (by decide) (by decide +kernel) (fun x y1 y2 => by have := rows_326_68 ⟨x - 327, by omega⟩; rw [show 327 + (x - 327) = x by omega] at this; exact this) (by decide +kernel) (by decide +kernel) (by decide) (by decide)) (fun v1 K1 h1 => ?_)
  obtain ⟨rfl, h1⟩ := h1
  refine q_on ?_
  refine q_ck (SQ.get h1 (by decide) (by decide +kernel)) ?_
  refine q_sP h1 (by decide) (by decide +kernel) (fun K2 h2 => ?_)
  refine q_nw h2 (by decide) (by decide +kernel) (by decide +kernel) (by decide +kernel) (by decide) (by decide) (fun K3 h3 => ?_)
  refine q_call (ci_395 hN h3) (fun v4 K4 h4 => ?_)
  refine q_sP h4 (by decide) (by decide +kernel) (fun K5 h5 => ?_)
  refine q_nw h5 (by decide) (by decide +kernel) (by decide +kernel) (by decide +kernel) (by decide) (by decide) (fun K6 h6 => ?_)
  refine q_call (ci_463 hN h6) (fun v7 K7 h7 => ?_)
  refine q_sP h7 (by decide) (by decide +kernel) (fun K8 h8 => ?_)
  refine q_ck (by decide) ?_
  refine q_ck (by decide) ?_
  refine q_nw h8 (by decide) (by decide +kernel) (by decide +kernel) (by decide +kernel) (by decide) (by decide) (fun K9 h9 => ?_)
  refine q_sP h9 (by decide) (by decide +kernel) (fun K10 h10 => ?_)
  refine q_ck (by decide) ?_
  refine q_ck (by decide) ?_
  refine q_nw h10 (by decide) (by decide +kernel) (by decide +kernel) (by decide +kernel) (by decide) (by decide) (fun K11 h11 => ?_)
  refine q_sP h11 (by decide) (by decide +kernel) (fun K12 h12 => ?_)
  refine q_ck (by decide) ?_
  refine q_ck (by decide) ?_
  refine q_nw h12 (by decide) (by decide +kernel) (by decide +kernel) (by decide +kernel) (by decide) (by decide) (fun K13 h13 => ?_)
  refine q_sP h13 (by decide) (by decide +kernel) (fun K14 h14 => ?_)
  refine q_ck (by decide) ?_
  refine q_ck (by decide) ?_
  refine q_nw h14 (by decide) (by decide +kernel) (by decide +kernel) (by decide +kernel) (by decide) (by decide) (fun K15 h15 => ?_)
  refine q_sP h15 (by decide) (by decide +kernel) (fun K16 h16 => ?_)
  refine q_ck (by decide) ?_
  refine q_ck (by decide) ?_
  refine q_nw h16 (by decide) (by decide +kernel) (by decide +kernel) (by decide +kernel) (by decide) (by decide) (fun K17 h17 => ?_)
  refine q_sP h17 (by decide) (by decide +kernel) (fun K18 h18 => ?_)
  refine q_ck (by decide) ?_
  refine q_ck (by decide) ?_
  refine q_nw h18 (by decide) (by decide +kernel) (by decide +kernel) (by decide +kernel) (by decide) (by decide) (fun K19 h19 => ?_)
  refine q_sP h19 (by decide) (by decide +kernel) (fun K20 h20 => ?_)
  refine q_ck (by decide) ?_
  refine q_ck (by decide) ?_
  refine q_nw h20 (by decide) (by decide +kernel) (by decide +kernel) (by decide +kernel) (by decide) (by decide) (fun K21 h21 => ?_)
  refine q_sP h21 (by decide) (by decide +kernel) (fun K22 h22 => ?_)
  refine q_ck (by decide) ?_
  refine q_ck (by decide) ?_
  refine q_nw h22 (by decide) (by decide +kernel) (by decide +kernel) (by decide +kernel) (by decide) (by decide) (fun K23 h23 => ?_)
  refine q_sP h23 (by decide) (by decide +kernel) (fun K24 h24 => ?_)
  refine q_ck (by decide) ?_
  refine q_ck (by decide) ?_
  refine q_nw h24 (by decide) (by decide +kernel) (by decide +kernel) (by decide +kernel) (by decide) (by decide) (fun K25 h25 => ?_)
  refine q_sP h25 (by decide) (by decide +kernel) (fun K26 h26 => ?_)
  refine q_ck (by decide) ?_
  refine q_ck (by decide) ?_
  refine q_nw h26 (by decide) (by decide +kernel) (by decide +kernel) (by decide +kernel) (by decide) (by decide) (fun K27 h27 => ?_)
  refine q_sP h27 (by decide) (by decide +kernel) (fun K28 h28 => ?_)
  exact q_end (h28)
end Par
