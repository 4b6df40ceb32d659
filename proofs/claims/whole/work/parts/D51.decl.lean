/-! ===== declarations: what they change, what both sides hold between them ===== -/
def SX (p a f : Nat) : Bool := decide ((a = 9 ∧ (f = 1 ∨ f = 2 ∨ f = 3 ∨ f = 5 ∨ f = 6)) ∨ a = 10 ∨ (a = p ∧ (f = 1 ∨ f = 4 ∨ f = 7 ∨ f = 15 ∨ f = 17)) ∨ (p + 2 ≤ a ∧ a < p + 70) ∨ (a = p + 70 ∧ f = 3) ∨ (p + 72 ≤ a ∧ a < p + 88) ∨ (p + 89 ≤ a ∧ a < p + 138) ∨ (a = p + 138 ∧ f = 3) ∨ (p + 140 ≤ a ∧ a < p + 148) ∨ (p + 149 ≤ a ∧ a < p + 192))
def SD (p a f : Nat) : Bool := decide ((a = 1 ∧ (f = 2 ∨ f = 3 ∨ f = 4 ∨ f = 5 ∨ f = 11)) ∨ (a = 9 ∧ (f = 1 ∨ f = 2 ∨ f = 3 ∨ f = 5 ∨ f = 6)) ∨ a = 10 ∨ (a = p ∧ (f = 1 ∨ f = 4 ∨ f = 7 ∨ f = 15 ∨ f = 17)) ∨ (p + 2 ≤ a ∧ a < p + 70) ∨ (a = p + 70 ∧ f = 3) ∨ (p + 72 ≤ a ∧ a < p + 88) ∨ (p + 89 ≤ a ∧ a < p + 138) ∨ (a = p + 138 ∧ f = 3) ∨ (p + 140 ≤ a ∧ a < p + 148) ∨ (p + 149 ≤ a ∧ a < p + 192))
def SRd (w a f : Nat) : Prop := (w + 5 ≤ a ∧ a ≤ w + 30 ∧ a ≠ w + 6) ∨ (a = w ∧ 9 ≤ f ∧ f ≠ 37)
theorem okX133 : okS (SX 133) = true := by decide +kernel
theorem okX325 : okS (SX 325) = true := by decide +kernel
theorem SX_ok {p : Nat} (hp : p = 133 ∨ p = 325) : okL (SX p) := by
  refine ⟨?_, fun f => decide_eq_false (by omega), fun f => decide_eq_false (by omega), fun f => decide_eq_false (by omega), fun f => decide_eq_false (by omega), fun f => decide_eq_false (by omega), decide_eq_false (by omega), decide_eq_false (by omega)⟩
  rcases hp with rfl | rfl
  · exact okX133
  · exact okX325
theorem SX_lt {p : Nat} (hp : p = 133 ∨ p = 325) : ∀ a f, SX p a f = true → a < 626 := fun a f h => by
  have := of_decide_eq_true h
  omega
theorem SX_SD {p : Nat} : ∀ a f, SD p a f = false → SX p a f = false := fun a f h => by
  have := of_decide_eq_false h
  exact decide_eq_false (by omega)
theorem SL_SD {p : Nat} : ∀ a f, SD p a f = false → SL a f = false := fun a f h => by
  have := of_decide_eq_false h
  exact decide_eq_false (by omega)
theorem SBo_SD {p n : Nat} : ∀ a f, SD p a f = false → SBo p n a f = false := fun a f h => by
  have := of_decide_eq_false h
  exact decide_eq_false (by omega)
/-- the number of locals is as it was -/
theorem same.w37 {w : Nat} {R : Nat → Nat → Prop} {B B' : Hp} (h : same R B B') (hR : ∀ a f, R a f → SRd w a f ∨ (a = w ∧ f = 37)) (h37 : B'.D w 37 = B.D w 37) : same (SRd w) B B' := by
  refine ⟨fun a f hn => ?_, h.2⟩
  by_cases z : R a f
  · rcases hR a f z with q | ⟨rfl, rfl⟩
    · exact absurd q hn
    · exact h37
  · exact h.1 a f z
theorem SRo_37 {w : Nat} {B B' : Hp} (h : same (SRo w) B B') (h37 : B'.D w 37 = B.D w 37) : same (SRd w) B B' := by
  refine h.w37 (fun a f z => ?_) h37
  unfold SRo at z
  unfold SRd
  omega
theorem SRd_fail {w : Nat} {B : Hp} {k p : Nat} : same (SRd w) B (failB B w k p) := (same.rf.sD (by unfold SRd; omega)).sD (by unfold SRd; omega)
theorem Out.up37 {α β : Type} {p n w : Nat} {L : List (Nat × Nat × Int32 × Bool × Nat)} {i : Nat} {A B : Hp} {fA : Option (Ot α × Hp)} {fB : Option (β × Hp)} {Post : Nat → α → Hp → β → Hp → Prop} (h : Out (SBo p n) (SRo w) w L i A B fA fB Post) (h37 : ∀ y B', fB = some (y, B') → B'.D w 37 = B.D w 37) : Out (SD p) (SRd w) w L i A B fA fB Post := by
  rcases h with ⟨x, A', y, B', k, p0, e1, e2, e3, e4, e5, e6, e7⟩ | ⟨v, A', y, B', j, e1, e2, e3, e4, e5, e6, e7⟩
  · exact Or.inl ⟨x, A', y, B', k, p0, e1, e2, e3, e4, e5, e6.mono SBo_SD (Nat.le_refl _), SRo_37 e7 (h37 y B' e2)⟩
  · exact Or.inr ⟨v, A', y, B', j, e1, e2, e3, e4, e5.mono SBo_SD (Nat.le_refl _), SRo_37 e6 (h37 y B' e2), e7⟩
/-- a block leaves the number of locals as it was -/
theorem st16_37 {N w : Nat} {o : Orc_TextS} {l1 l2 : Int32} {y : Unit} {B' : Hp} : ∀ n H, B_MText_statements_16 N o w n l1 l2 H = some (y, B') → B'.D w 37 = l2 := by
  have h39 : ∀ H, B_MText_statements_39 N o w l1 l2 H = some (y, B') → B'.D w 37 = l2 := by
    intro H h
    unfold B_MText_statements_39 at h
    obtain ⟨-, h⟩ := ck_s h
    obtain ⟨a, -, h⟩ := rf_s h
    rw [bnd_t] at h
    obtain ⟨m, -, h⟩ := ar_s h
    obtain ⟨-, h⟩ := ck_s h
    rw [bnd_t] at h
    obtain ⟨v, H1, -, h⟩ := bC_s h
    rw [bnd_t] at h
    have h2 : H1.sD w 37 l2 = B' := congrArg Prod.snd (Option.some.inj h)
    rw [← h2]
    exact rds
  intro n
  induction n with
  | zero => intro H h; rw [B_MText_statements_16] at h; exact absurd h (by simp)
  | succ n ih =>
    intro H h
    rw [B_MText_statements_16] at h
    obtain ⟨-, h⟩ := ck_s h
    rw [bnd_t] at h
    split at h
    · obtain ⟨v, H1, -, h⟩ := bC_s h
      split at h
      · obtain ⟨v, H1, -, h⟩ := bC_s h
        exact ih _ h
      · exact h39 _ h
    · exact h39 _ h
theorem st_37 {N w : Nat} {o : Orc_TextS} {y : Unit} {B B' : Hp} (h : F_MText_statements N o w B = some (y, B')) : B'.D w 37 = B.D w 37 := by
  unfold F_MText_statements at h
  obtain ⟨-, h⟩ := ck_s h
  rw [bnd_t, bnd_t] at h
  obtain ⟨v, H1, -, h⟩ := bC_s h
  exact st16_37 _ _ h
theorem Out.noD {γ δ : Type} {w p T i k t j : Nat} {L : List (Nat × Nat × Int32 × Bool × Nat)} {g : Nat → Nat} {A B B1 : Hp} {y : δ} {Post : Nat → γ → Hp → δ → Hp → Prop} (hB : LB B w L T g j) (h0 : 0 < k) (hk : k < 100) (hi : i < L.length) (hz : Zf B1 w k t) (hs : same (SRd w) B B1) : Out (SD p) (SRd w) w L i A B (some (.inr A.sh.length, refA A (nI k) (nI t)) : Option (Ot γ × Hp)) (some (y, B1)) Post := by
  refine Or.inl ⟨A.sh.length, _, y, B1, k, t, rfl, rfl, ⟨ref_sh, ref_f.1⟩, ref_f.2, hz, ?_, hs⟩
  exact (ref_ex (k := nI k) (p := nI t)).mono SL_SD (by omega)
/-! records that change -/
def upE (E : Nat → Nat → Nat) (r k v : Nat) : Nat → Nat → Nat := fun a b => if a = r then (if b = k then v else E a b) else E a b
def upN (M : Nat → Nat → List Nat) (r k : Nat) (v : List Nat) : Nat → Nat → List Nat := fun a b => if a = r then (if b = k then v else M a b) else M a b
/-! the groups of a record, class -/
def EA1 (A : Hp) (p : Nat) (E : Nat → Nat → Nat) (Nm : Nat → Nat → List Nat) : Prop := ∀ k, k < E 0 0 → nmd A (p + 2 + k) (Nm 1 k) ∧ A.D (p + 2 + k) 1 = nI (E 2 k) ∧ A.D (p + 2 + k) 2 = nI (E 3 k) ∧ A.D (p + 2 + k) 3 = 0
def EA2 (A : Hp) (p : Nat) (E : Nat → Nat → Nat) (Nm : Nat → Nat → List Nat) : Prop := A.D (p + 70) 3 = nI (E 4 0) ∧ (∀ c, c ≤ E 4 0 → A.D (p + 137) c = nI (E 5 c)) ∧ (∀ m, m < E 5 (E 4 0) → nmd A (p + 89 + m) (Nm 7 m) ∧ A.D (p + 89 + m) 3 = nI (E 6 m)) ∧ ∀ c, c < E 4 0 → nmd A (p + 72 + c) (Nm 8 c)
def EA3 (A : Hp) (p : Nat) (E : Nat → Nat → Nat) (Nm : Nat → Nat → List Nat) : Prop := A.D (p + 138) 3 = nI (E 9 0) ∧ (∀ e, e ≤ E 9 0 → A.D (p + 181) e = nI (E 11 e)) ∧ (∀ e q, e < E 9 0 → q < E 10 e → nmd A (p + 149 + (E 11 e + q)) (Nm 13 (4 * e + q)) ∧ A.D (p + 149 + (E 11 e + q)) 3 = nI (E 12 (4 * e + q))) ∧ ∀ e, e < E 9 0 → nmd A (p + 140 + e) (Nm 14 e)
def EA4 (A : Hp) (p : Nat) (E : Nat → Nat → Nat) (Pv : Nat → Nat → Int32) : Prop := A.D p 4 = nI (E 15 0) ∧ ∀ f, f < E 15 0 → A.D (p + 182) f = nI (E 16 f) ∧ ∀ c m, mOf E c m → E 16 f / 2 ^ c % 2 = 1 → A.D (p + 183) (48 * f + m) = Pv f m
def EA5 (A : Hp) (p : Nat) (E : Nat → Nat → Nat) : Prop := A.D p 7 = nI (E 17 0) ∧ ∀ s, s < E 17 0 → A.D (p + 184) s = nI (E 22 s) ∧ A.D (p + 185) s = nI (E 18 s) ∧ A.D (p + 186) s = nI (E 19 s) ∧ A.D (p + 187) s = nI (E 20 s) ∧ A.D (p + 188) s = nI (E 21 s) ∧ A.D (p + 189) s = nI (E 23 s) ∧ A.D (p + 190) s = nI (E 25 s)
theorem EA1.fr {A A' : Hp} {p : Nat} {E : Nat → Nat → Nat} {Nm : Nat → Nat → List Nat} (h : EA1 A p E Nm) (hd : ∀ a f, p + 2 ≤ a → a < p + 2 + E 0 0 → A'.D a f = A.D a f) (hn : ∀ a n, p + 2 ≤ a → a < p + 2 + E 0 0 → nmd A a n → nmd A' a n) : EA1 A' p E Nm := by
  intro k hk
  obtain ⟨h1, h2, h3, h4⟩ := h k hk
  exact ⟨hn _ _ (by omega) (by omega) h1, by rw [hd _ _ (by omega) (by omega), h2], by rw [hd _ _ (by omega) (by omega), h3], by rw [hd _ _ (by omega) (by omega), h4]⟩
theorem EA2.fr {A A' : Hp} {p : Nat} {E : Nat → Nat → Nat} {Nm : Nat → Nat → List Nat} (h : EA2 A p E Nm) (hE : WE E) (hd : ∀ a f, (a = p + 70 ∧ f = 3) ∨ (p + 72 ≤ a ∧ a < p + 138) → A'.D a f = A.D a f) (hn : ∀ a n, p + 72 ≤ a → a < p + 138 → nmd A a n → nmd A' a n) : EA2 A' p E Nm := by
  obtain ⟨h1, h2, h3, h4⟩ := h
  obtain ⟨w1, w2, w3, w4, -⟩ := hE
  exact ⟨by rw [hd _ _ (by omega), h1], fun c hc => by rw [hd _ _ (by omega), h2 c hc], fun m hm => ⟨hn _ _ (by omega) (by omega) (h3 m hm).1, by rw [hd _ _ (by omega), (h3 m hm).2]⟩, fun c hc => hn _ _ (by omega) (by omega) (h4 c hc)⟩
theorem EA3.fr {A A' : Hp} {p : Nat} {E : Nat → Nat → Nat} {Nm : Nat → Nat → List Nat} (h : EA3 A p E Nm) (hE : WE E) (hd : ∀ a f, (a = p + 138 ∧ f = 3) ∨ (p + 140 ≤ a ∧ a < p + 182) → A'.D a f = A.D a f) (hn : ∀ a n, p + 140 ≤ a → a < p + 182 → nmd A a n → nmd A' a n) : EA3 A' p E Nm := by
  obtain ⟨h1, h2, h3, h4⟩ := h
  obtain ⟨-, -, -, -, -, w6, w7, w8, -⟩ := hE
  refine ⟨by rw [hd _ _ (by omega), h1], fun c hc => by rw [hd _ _ (by omega), h2 c hc], fun e q he hq => ?_, fun c hc => hn _ _ (by omega) (by omega) (h4 c hc)⟩
  have := (w8 e he).2.2
  exact ⟨hn _ _ (by omega) (by omega) (h3 e q he hq).1, by rw [hd _ _ (by omega), (h3 e q he hq).2]⟩
theorem EA4.fr {A A' : Hp} {p : Nat} {E : Nat → Nat → Nat} {Pv : Nat → Nat → Int32} (h : EA4 A p E Pv) (hd : ∀ a f, (a = p ∧ f = 4) ∨ a = p + 182 ∨ a = p + 183 → A'.D a f = A.D a f) : EA4 A' p E Pv := by
  obtain ⟨h1, h2⟩ := h
  exact ⟨by rw [hd _ _ (by omega), h1], fun f hf => ⟨by rw [hd _ _ (by omega), (h2 f hf).1], fun c m hm hb => by rw [hd _ _ (by omega), (h2 f hf).2 c m hm hb]⟩⟩
theorem EA5.fr {A A' : Hp} {p : Nat} {E : Nat → Nat → Nat} (h : EA5 A p E) (hd : ∀ a f, (a = p ∧ f = 7) ∨ (p + 184 ≤ a ∧ a ≤ p + 190) → A'.D a f = A.D a f) : EA5 A' p E := by
  obtain ⟨h1, h2⟩ := h
  refine ⟨by rw [hd _ _ (by omega), h1], fun s hs => ?_⟩
  rw [hd _ _ (by omega), hd _ _ (by omega), hd _ _ (by omega), hd _ _ (by omega), hd _ _ (by omega), hd _ _ (by omega), hd _ _ (by omega)]
  exact h2 s hs
/-! the same, reference -/
def EB1 (B : Hp) (w : Nat) (E : Nat → Nat → Nat) (Nm : Nat → Nat → List Nat) : Prop := B.D w 12 = nI (E 0 0) ∧ ∀ k, k < E 0 0 → (∃ u, B.D (w + 8) k = nI u ∧ tokN B w u (Nm 1 k)) ∧ B.D (w + 9) k = nI (E 2 k + 2) ∧ B.D (w + 10) k = nI (E 3 k)
def EB2 (B : Hp) (w : Nat) (E : Nat → Nat → Nat) (Nm : Nat → Nat → List Nat) : Prop := B.D w 16 = nI (E 4 0) ∧ (∀ c, c ≤ E 4 0 → B.D (w + 12) c = nI (E 5 c)) ∧ (∀ m, m < E 5 (E 4 0) → (∃ u, B.D (w + 14) m = nI u ∧ tokN B w u (Nm 7 m)) ∧ B.D (w + 13) m = nI (E 6 m)) ∧ ∀ c, c < E 4 0 → ∃ u, B.D (w + 11) c = nI u ∧ tokN B w u (Nm 8 c)
def EB3 (B : Hp) (w : Nat) (E : Nat → Nat → Nat) (Nm : Nat → Nat → List Nat) : Prop := B.D w 21 = nI (E 9 0) ∧ (∀ e, e < E 9 0 → B.D (w + 16) e = nI (E 10 e)) ∧ (∀ e q, e < E 9 0 → q < E 10 e → (∃ u, B.D (w + 18) (4 * e + q) = nI u ∧ tokN B w u (Nm 13 (4 * e + q))) ∧ B.D (w + 17) (4 * e + q) = nI (E 12 (4 * e + q))) ∧ ∀ e, e < E 9 0 → ∃ u, B.D (w + 15) e = nI u ∧ tokN B w u (Nm 14 e)
def EB4 (B : Hp) (w : Nat) (E : Nat → Nat → Nat) (Pv : Nat → Nat → Int32) : Prop := B.D w 26 = nI (E 15 0) ∧ ∀ f, f < E 15 0 → B.D (w + 19) f = nI (E 16 f) ∧ ∀ c m, mOf E c m → E 16 f / 2 ^ c % 2 = 1 → B.D (w + 20) (48 * f + m) = Pv f m
def EB5 (B : Hp) (w : Nat) (E : Nat → Nat → Nat) : Prop := B.D w 29 = nI (E 17 0) ∧ ∀ s, s < E 17 0 → B.D (w + 25) s = nI (E 22 s) ∧ B.D (w + 21) s = nI (E 18 s) ∧ B.D (w + 22) s = nI (E 19 s) ∧ B.D (w + 23) s = nI (E 20 s) ∧ B.D (w + 24) s = nI (E 21 s) ∧ B.D (w + 26) s = nI (E 24 s)
/-- the letters and the tokens' places stay -/
def ltr (w : Nat) (B B' : Hp) : Prop := B'.D (w + 1) = B.D (w + 1) ∧ B'.D (w + 3) = B.D (w + 3) ∧ B'.D (w + 4) = B.D (w + 4)
theorem SRd.ltr {w : Nat} {B B' : Hp} (h : same (SRd w) B B') : ltr w B B' := by
  refine ⟨?_, ?_, ?_⟩ <;> (funext f; exact h.1 _ _ (by unfold SRd; omega))
theorem EB1.fr {B B' : Hp} {w : Nat} {E : Nat → Nat → Nat} {Nm : Nat → Nat → List Nat} (h : EB1 B w E Nm) (hl : ltr w B B') (hd : ∀ a f, (a = w ∧ f = 12) ∨ (w + 8 ≤ a ∧ a ≤ w + 10) → B'.D a f = B.D a f) : EB1 B' w E Nm := by
  obtain ⟨h1, h2⟩ := h
  refine ⟨by rw [hd _ _ (by omega), h1], fun k hk => ?_⟩
  obtain ⟨⟨u, u1, u2⟩, a2, a3⟩ := h2 k hk
  exact ⟨⟨u, by rw [hd _ _ (by omega), u1], u2.ex hl.1 hl.2.1 hl.2.2⟩, by rw [hd _ _ (by omega), a2], by rw [hd _ _ (by omega), a3]⟩
theorem EB2.fr {B B' : Hp} {w : Nat} {E : Nat → Nat → Nat} {Nm : Nat → Nat → List Nat} (h : EB2 B w E Nm) (hl : ltr w B B') (hd : ∀ a f, (a = w ∧ f = 16) ∨ (w + 11 ≤ a ∧ a ≤ w + 14) → B'.D a f = B.D a f) : EB2 B' w E Nm := by
  obtain ⟨h1, h2, h3, h4⟩ := h
  refine ⟨by rw [hd _ _ (by omega), h1], fun c hc => by rw [hd _ _ (by omega), h2 c hc], fun m hm => ?_, fun c hc => ?_⟩
  · obtain ⟨⟨u, u1, u2⟩, a2⟩ := h3 m hm
    exact ⟨⟨u, by rw [hd _ _ (by omega), u1], u2.ex hl.1 hl.2.1 hl.2.2⟩, by rw [hd _ _ (by omega), a2]⟩
  · obtain ⟨u, u1, u2⟩ := h4 c hc
    exact ⟨u, by rw [hd _ _ (by omega), u1], u2.ex hl.1 hl.2.1 hl.2.2⟩
theorem EB3.fr {B B' : Hp} {w : Nat} {E : Nat → Nat → Nat} {Nm : Nat → Nat → List Nat} (h : EB3 B w E Nm) (hl : ltr w B B') (hd : ∀ a f, (a = w ∧ f = 21) ∨ (w + 15 ≤ a ∧ a ≤ w + 18) → B'.D a f = B.D a f) : EB3 B' w E Nm := by
  obtain ⟨h1, h2, h3, h4⟩ := h
  refine ⟨by rw [hd _ _ (by omega), h1], fun c hc => by rw [hd _ _ (by omega), h2 c hc], fun e q he hq => ?_, fun c hc => ?_⟩
  · obtain ⟨⟨u, u1, u2⟩, a2⟩ := h3 e q he hq
    exact ⟨⟨u, by rw [hd _ _ (by omega), u1], u2.ex hl.1 hl.2.1 hl.2.2⟩, by rw [hd _ _ (by omega), a2]⟩
  · obtain ⟨u, u1, u2⟩ := h4 c hc
    exact ⟨u, by rw [hd _ _ (by omega), u1], u2.ex hl.1 hl.2.1 hl.2.2⟩
theorem EB4.fr {B B' : Hp} {w : Nat} {E : Nat → Nat → Nat} {Pv : Nat → Nat → Int32} (h : EB4 B w E Pv) (hd : ∀ a f, (a = w ∧ f = 26) ∨ a = w + 19 ∨ a = w + 20 → B'.D a f = B.D a f) : EB4 B' w E Pv := by
  obtain ⟨h1, h2⟩ := h
  exact ⟨by rw [hd _ _ (by omega), h1], fun f hf => ⟨by rw [hd _ _ (by omega), (h2 f hf).1], fun c m hm hb => by rw [hd _ _ (by omega), (h2 f hf).2 c m hm hb]⟩⟩
theorem EB5.fr {B B' : Hp} {w : Nat} {E : Nat → Nat → Nat} (h : EB5 B w E) (hd : ∀ a f, (a = w ∧ f = 29) ∨ (w + 21 ≤ a ∧ a ≤ w + 26) → B'.D a f = B.D a f) : EB5 B' w E := by
  obtain ⟨h1, h2⟩ := h
  refine ⟨by rw [hd _ _ (by omega), h1], fun s hs => ?_⟩
  rw [hd _ _ (by omega), hd _ _ (by omega), hd _ _ (by omega), hd _ _ (by omega), hd _ _ (by omega), hd _ _ (by omega)]
  exact h2 s hs
/-! the state between declarations -/
def UA (p T : Nat) (L : List (Nat × Nat × Int32 × Bool × Nat)) (g : Nat → Nat) (E : Nat → Nat → Nat) (Nm : Nat → Nat → List Nat) (Pv : Nat → Nat → Int32) (i cs : Nat) (A : Hp) : Prop := LA A L T g i ∧ ENA A p E Nm Pv ∧ A.D p 1 = nI (E 0 0) ∧ A.D p 17 = nI cs ∧ A.P 8 2 = .ref p
/-- a value that a prefab may hold -/
def gdC (kd : Nat) (v : Int32) : Prop := (kd = 1 → (-128 : Int32) ≤ v ∧ v ≤ 127) ∧ (kd = 3 → v = 0 ∨ v = 1) ∧ (kd = 4 → v = -1)
def GP (E : Nat → Nat → Nat) (Pv : Nat → Nat → Int32) : Prop := ∀ f c m, f < E 15 0 → mOf E c m → E 16 f / 2 ^ c % 2 = 1 → gdC (E 6 m) (Pv f m)
def UB (w T : Nat) (L : List (Nat × Nat × Int32 × Bool × Nat)) (g : Nat → Nat) (E : Nat → Nat → Nat) (Nm : Nat → Nat → List Nat) (Pv : Nat → Nat → Int32) (i : Nat) (B : Hp) : Prop := LB B w L T g i ∧ ENB B w E Nm Pv ∧ B.D w 37 = 0 ∧ GP E Pv
/-- a record's bounds; all that is told is one of the four -/
def WU (p : Nat) (E : Nat → Nat → Nat) : Prop := WE E ∧ (p = 133 ∨ p = 325) ∧ E 0 0 = E 4 0 + E 9 0 + E 15 0 + E 17 0 ∧ ∀ f, f < E 15 0 → E 16 f < 2 ^ E 4 0
/-! names of Named objects -/
theorem ne_626 {s a : Nat} (h : 626 ≤ s) (ha : a < 626) : s ≠ a := by omega
theorem nmd.sD {A : Hp} {x a f : Nat} {v : Int32} {n : List Nat} (h : nmd A x n) (ha : a < 626) : nmd (A.sD a f v) x n := by
  obtain ⟨s, s1, ⟨a1, a2, a3, a4, b, b1, b2, b3⟩, s3, s4⟩ := h
  have s5 := s4 b b1
  exact ⟨s, s1, ⟨a1, by rw [rdw (ne_626 s3 ha)]; exact a2, a3, a4, b, b1, b2, fun i hi => by rw [rdw (ne_626 s5 ha)]; exact b3 i hi⟩, s3, s4⟩
theorem sP_o {A : Hp} {a f x y : Nat} {v : Value} (h : x ≠ a ∨ y ≠ f) : (A.sP a f v).P x y = A.P x y := by
  show (if x = a then (if y = f then v else A.P x y) else A.P x y) = _
  by_cases z : x = a
  · rw [if_pos z, if_neg (by omega)]
  · rw [if_neg z]
theorem sP_s {A : Hp} {a f : Nat} {v : Value} : (A.sP a f v).P a f = v := by
  show (if a = a then (if f = f then v else A.P a f) else A.P a f) = _
  rw [if_pos rfl, if_pos rfl]
theorem nmd.sP {A : Hp} {x a f : Nat} {v : Value} {n : List Nat} (h : nmd A x n) (ha : a < 626) (hx : x ≠ a ∨ f ≠ 0) : nmd (A.sP a f v) x n := by
  obtain ⟨s, s1, ⟨a1, a2, a3, a4, b, b1, b2, b3⟩, s3, s4⟩ := h
  exact ⟨s, by rw [sP_o (by omega)]; exact s1, ⟨a1, a2, a3, a4, b, by rw [sP_o (Or.inl (ne_626 s3 ha))]; exact b1, b2, b3⟩, s3, fun b' hb' => s4 b' (by rw [sP_o (Or.inl (ne_626 s3 ha))] at hb'; exact hb')⟩
theorem nmd.set {A : Hp} {x s : Nat} {n : List Nat} (h : strA A s n) (h6 : 626 ≤ s) (hb : ∀ b, A.P s 0 = .ref b → 626 ≤ b) (hx : x < 626) : nmd (A.sP x 0 (.ref s)) x n := by
  obtain ⟨a1, a2, a3, a4, b, b1, b2, b3⟩ := h
  exact ⟨s, sP_s, ⟨a1, a2, a3, a4, b, by rw [sP_o (Or.inl (ne_626 h6 hx))]; exact b1, b2, b3⟩, h6, fun b' hb' => hb b' (by rw [sP_o (Or.inl (ne_626 h6 hx))] at hb'; exact hb')⟩
theorem strA.sD {A : Hp} {s a f : Nat} {v : Int32} {n : List Nat} (h : strA A s n) (h6 : 626 ≤ s) (hb : ∀ b, A.P s 0 = .ref b → 626 ≤ b) (ha : a < 626) : strA (A.sD a f v) s n := by
  obtain ⟨a1, a2, a3, a4, b, b1, b2, b3⟩ := h
  have s5 := hb b b1
  exact ⟨a1, by rw [rdw (ne_626 h6 ha)]; exact a2, a3, a4, b, b1, b2, fun i hi => by rw [rdw (ne_626 s5 ha)]; exact b3 i hi⟩
/-- an object of class Named is told -/
def ntA (A : Hp) (x s : Nat) (so n k : Int32) : Hp := (((A.sP x 0 (.ref s)).sD x 1 so).sD x 2 n).sD x 3 k
theorem ev_ntell {N x s : Nat} {so n k : Int32} {A : Hp} (h : A.sh[x]? = some (2, 0)) : F_Named_tell N x s so n k A = some ((), ntA A x s so n k) := by
  unfold F_Named_tell
  rw [ck_t h, bnd_t, bnd_t, bnd_t, bnd_t]
  rfl
theorem ntA_nm {A : Hp} {x s : Nat} {so k m : Int32} {n : List Nat} (h : strA A s n) (h6 : 626 ≤ s) (hb : ∀ b, A.P s 0 = .ref b → 626 ≤ b) (hx : x < 626) : nmd (ntA A x s so m k) x n := (((nmd.set h h6 hb hx).sD hx).sD hx).sD hx
theorem ntA_nmo {A : Hp} {x y s : Nat} {so k m : Int32} {n : List Nat} (h : nmd A y n) (hx : x < 626) (hy : y ≠ x) : nmd (ntA A x s so m k) y n := (((h.sP hx (Or.inl hy)).sD hx).sD hx).sD hx
theorem ntA_D {A : Hp} {x s : Nat} {so k m : Int32} : (ntA A x s so m k).D x 1 = so ∧ (ntA A x s so m k).D x 2 = m ∧ (ntA A x s so m k).D x 3 = k := by
  unfold ntA
  refine ⟨?_, ?_, ?_⟩
  · rw [rdf (by decide), rdf (by decide), rds]
  · rw [rdf (by decide), rds]
  · rw [rds]
theorem ntA_Do {A : Hp} {x y f s : Nat} {so k m : Int32} (hy : y ≠ x) : (ntA A x s so m k).D y f = A.D y f := by
  unfold ntA
  rw [rdw hy, rdw hy, rdw hy]
  rfl
theorem ntA_Po {A : Hp} {x y f s : Nat} {so k m : Int32} (hy : y ≠ x ∨ f ≠ 0) : (ntA A x s so m k).P y f = A.P y f := sP_o hy
theorem ntA_ex {S : Nat → Nat → Bool} {A : Hp} {x s : Nat} {so k m : Int32} (h0 : ∀ f, S x f = true) : exA S 0 A (ntA A x s so m k) := (((exA.rf.sP (h0 0)).sD (h0 1)).sD (h0 2)).sD (h0 3)
theorem ntA_str {A : Hp} {x s t : Nat} {so k m : Int32} {n : List Nat} (h : strA A s n) (h6 : 626 ≤ s) (hb : ∀ b, A.P s 0 = .ref b → 626 ≤ b) (hx : x < 626) : strA (ntA A x t so m k) s n ∧ ∀ b, (ntA A x t so m k).P s 0 = .ref b → 626 ≤ b := by
  have e : ∀ f, (ntA A x t so m k).P s f = A.P s f := fun f => ntA_Po (Or.inl (ne_626 h6 hx))
  obtain ⟨a1, a2, a3, a4, b, b1, b2, b3⟩ := h
  have s5 := hb b b1
  exact ⟨⟨a1, by rw [ntA_Do (ne_626 h6 hx)]; exact a2, a3, a4, b, by rw [e]; exact b1, b2, fun i hi => by rw [ntA_Do (ne_626 s5 hx)]; exact b3 i hi⟩, fun b' h' => hb b' (by rw [e] at h'; exact h')⟩
