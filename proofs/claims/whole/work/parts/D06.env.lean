/-! ===== what a text tells: E (numbers) and Nm (names) between both sides =====
E 0 0 things; 2 sort; 3 number | 4 0 components; 5 members from; 6 member's kind | 9 0 events; 10 size; 11 first; 12 kinds | 15 0 prefabs; 16 bits | 17 0 systems; 18 each 19 without 20 writes 21 reads 22 after 23 start 24 body 25 group; 26 0 groups
Nm 1 things; 7 members; 8 components; 13 events' members; 14 events -/
def WE (E : Nat → Nat → Nat) : Prop := E 4 0 ≤ 16 ∧ E 5 0 = 0 ∧ (∀ c, c < E 4 0 → E 5 c ≤ E 5 (c + 1) ∧ E 5 (c + 1) ≤ E 5 c + 8 ∧ E 5 (c + 1) ≤ E 5 (E 4 0)) ∧ E 5 (E 4 0) ≤ 48 ∧ (∀ m, m < E 5 (E 4 0) → E 6 m ≤ 4) ∧
  E 9 0 ≤ 8 ∧ E 11 0 = 0 ∧ (∀ e, e < E 9 0 → E 10 e ≤ 4 ∧ E 11 (e + 1) = E 11 e + E 10 e ∧ E 11 e + E 10 e ≤ 4 * (e + 1)) ∧ (∀ e q, e < E 9 0 → q < E 10 e → E 12 (4 * e + q) ≤ 4) ∧
  E 15 0 ≤ 16 ∧ (∀ f, f < E 15 0 → E 16 f < 65536) ∧ E 17 0 ≤ 16 ∧ (∀ s, s < E 17 0 → E 18 s < 65536 ∧ E 19 s < 65536 ∧ E 20 s < 65536 ∧ E 21 s < 65536 ∧ E 22 s < 65536) ∧
  E 0 0 ≤ 56 ∧ (∀ k, k < E 0 0 → E 2 k ≤ 3 ∧ E 3 k < 16 ∧ (E 2 k = 0 → E 3 k < E 4 0) ∧ (E 2 k = 1 → E 3 k < E 9 0) ∧ (E 2 k = 2 → E 3 k < E 15 0) ∧ (E 2 k = 3 → E 3 k < E 17 0))
/-- member m is one of component c's -/
def mOf (E : Nat → Nat → Nat) (c m : Nat) : Prop := c < E 4 0 ∧ E 5 c ≤ m ∧ m < E 5 (c + 1)
def ENA (A : Hp) (p : Nat) (E : Nat → Nat → Nat) (Nm : Nat → Nat → List Nat) (Pv : Nat → Nat → Int32) : Prop :=
  (∀ k, k < E 0 0 → nmd A (p + 2 + k) (Nm 1 k) ∧ A.D (p + 2 + k) 1 = nI (E 2 k) ∧ A.D (p + 2 + k) 2 = nI (E 3 k) ∧ A.D (p + 2 + k) 3 = 0) ∧
  (A.D (p + 70) 3 = nI (E 4 0) ∧ (∀ c, c ≤ E 4 0 → A.D (p + 137) c = nI (E 5 c)) ∧ (∀ m, m < E 5 (E 4 0) → nmd A (p + 89 + m) (Nm 7 m) ∧ A.D (p + 89 + m) 3 = nI (E 6 m)) ∧ ∀ c, c < E 4 0 → nmd A (p + 72 + c) (Nm 8 c)) ∧
  (A.D (p + 138) 3 = nI (E 9 0) ∧ (∀ e, e ≤ E 9 0 → A.D (p + 181) e = nI (E 11 e)) ∧ (∀ e q, e < E 9 0 → q < E 10 e → nmd A (p + 149 + (E 11 e + q)) (Nm 13 (4 * e + q)) ∧ A.D (p + 149 + (E 11 e + q)) 3 = nI (E 12 (4 * e + q))) ∧ ∀ e, e < E 9 0 → nmd A (p + 140 + e) (Nm 14 e)) ∧
  (A.D p 4 = nI (E 15 0) ∧ ∀ f, f < E 15 0 → A.D (p + 182) f = nI (E 16 f) ∧ ∀ c m, mOf E c m → E 16 f / 2 ^ c % 2 = 1 → A.D (p + 183) (48 * f + m) = Pv f m) ∧
  (A.D p 7 = nI (E 17 0) ∧ ∀ s, s < E 17 0 → A.D (p + 184) s = nI (E 22 s) ∧ A.D (p + 185) s = nI (E 18 s) ∧ A.D (p + 186) s = nI (E 19 s) ∧ A.D (p + 187) s = nI (E 20 s) ∧ A.D (p + 188) s = nI (E 21 s) ∧ A.D (p + 189) s = nI (E 23 s) ∧ A.D (p + 190) s = nI (E 25 s)) ∧ A.D p 15 = nI (E 26 0)
def ENB (B : Hp) (w : Nat) (E : Nat → Nat → Nat) (Nm : Nat → Nat → List Nat) (Pv : Nat → Nat → Int32) : Prop :=
  (B.D w 12 = nI (E 0 0) ∧ ∀ k, k < E 0 0 → (∃ u, B.D (w + 8) k = nI u ∧ tokN B w u (Nm 1 k)) ∧ B.D (w + 9) k = nI (E 2 k + 2) ∧ B.D (w + 10) k = nI (E 3 k)) ∧
  (B.D w 16 = nI (E 4 0) ∧ (∀ c, c ≤ E 4 0 → B.D (w + 12) c = nI (E 5 c)) ∧ (∀ m, m < E 5 (E 4 0) → (∃ u, B.D (w + 14) m = nI u ∧ tokN B w u (Nm 7 m)) ∧ B.D (w + 13) m = nI (E 6 m)) ∧ ∀ c, c < E 4 0 → ∃ u, B.D (w + 11) c = nI u ∧ tokN B w u (Nm 8 c)) ∧
  (B.D w 21 = nI (E 9 0) ∧ (∀ e, e < E 9 0 → B.D (w + 16) e = nI (E 10 e)) ∧ (∀ e q, e < E 9 0 → q < E 10 e → (∃ u, B.D (w + 18) (4 * e + q) = nI u ∧ tokN B w u (Nm 13 (4 * e + q))) ∧ B.D (w + 17) (4 * e + q) = nI (E 12 (4 * e + q))) ∧ ∀ e, e < E 9 0 → ∃ u, B.D (w + 15) e = nI u ∧ tokN B w u (Nm 14 e)) ∧
  (B.D w 26 = nI (E 15 0) ∧ ∀ f, f < E 15 0 → B.D (w + 19) f = nI (E 16 f) ∧ ∀ c m, mOf E c m → E 16 f / 2 ^ c % 2 = 1 → B.D (w + 20) (48 * f + m) = Pv f m) ∧
  (B.D w 29 = nI (E 17 0) ∧ ∀ s, s < E 17 0 → B.D (w + 25) s = nI (E 22 s) ∧ B.D (w + 21) s = nI (E 18 s) ∧ B.D (w + 22) s = nI (E 19 s) ∧ B.D (w + 23) s = nI (E 20 s) ∧ B.D (w + 24) s = nI (E 21 s) ∧ B.D (w + 26) s = nI (E 24 s))
/-- what a body's functions change -/
def SBo (p n : Nat) (a f : Nat) : Bool := decide ((a = 1 ∧ (f = 2 ∨ f = 3 ∨ f = 4 ∨ f = 5 ∨ f = 11)) ∨ (a = 9 ∧ (f = 3 ∨ f = 5 ∨ f = 6)) ∨ a = 10 ∨ (a = p ∧ (f = 1 ∨ f = 17)) ∨ (p + 2 + n ≤ a ∧ a < p + 70) ∨ a = p + 191)
def SRo (w a f : Nat) : Prop := a = w + 5 ∨ a = w + 7 ∨ a = w + 28 ∨ a = w + 29 ∨ a = w + 30 ∨ (a = w ∧ (f = 9 ∨ f = 10 ∨ f = 11 ∨ f = 37 ∨ f = 41 ∨ f = 42))
theorem SBo_lt {p n : Nat} (hp : p ≤ 400) : ∀ a f, SBo p n a f = true → a < 626 := fun a f h => by
  have := of_decide_eq_true h
  omega
theorem okB133 : ∀ n : Fin 57, okS (SBo 133 n.val) = true := by decide +kernel
theorem okB325 : ∀ n : Fin 57, okS (SBo 325 n.val) = true := by decide +kernel
theorem SBo_ok {p n : Nat} (hp : p = 133 ∨ p = 325) (hn : n ≤ 56) : okL (SBo p n) := by
  refine ⟨?_, fun f => decide_eq_false (by omega), fun f => decide_eq_false (by omega), fun f => decide_eq_false (by omega), fun f => decide_eq_false (by omega), fun f => decide_eq_false (by omega), decide_eq_false (by omega), decide_eq_false (by omega)⟩
  rcases hp with rfl | rfl
  · exact okB133 ⟨n, by omega⟩
  · exact okB325 ⟨n, by omega⟩
theorem SL_SBo {p n : Nat} : ∀ a f, SBo p n a f = false → SL a f = false := fun a f h => by
  have := of_decide_eq_false h
  exact decide_eq_false (by omega)
theorem ENA.ex {A A' : Hp} {p k : Nat} {E : Nat → Nat → Nat} {Nm : Nat → Nat → List Nat} {Pv : Nat → Nat → Int32} (h : ENA A p E Nm Pv) (hx : exA (SBo p (E 0 0)) k A A') (hE : WE E) (hp : p = 133 ∨ p = 325) (hl : 626 ≤ A.sh.length) : ENA A' p E Nm Pv := by
  obtain ⟨⟨w1, w2, w3, w4, w5, w6, w7, w8, w9, w10, w11, w12, w13, w14, w15⟩⟩ : Nonempty _ := ⟨hE⟩
  have hS := SBo_lt (p := p) (n := E 0 0) (by omega)
  have d : ∀ a f, a < 626 → ¬ ((a = 1 ∧ (f = 2 ∨ f = 3 ∨ f = 4 ∨ f = 5 ∨ f = 11)) ∨ (a = 9 ∧ (f = 3 ∨ f = 5 ∨ f = 6)) ∨ a = 10 ∨ (a = p ∧ (f = 1 ∨ f = 17)) ∨ (p + 2 + E 0 0 ≤ a ∧ a < p + 70) ∨ a = p + 191) → A'.D a f = A.D a f := fun a f ha hn => (hx.2.2.2 a f (by omega) (decide_eq_false hn)).1
  have nm : ∀ a n, a < 626 → ¬ ((a = 1 ∧ (0 = 2 ∨ 0 = 3 ∨ 0 = 4 ∨ 0 = 5 ∨ 0 = 11)) ∨ (a = 9 ∧ (0 = 3 ∨ 0 = 5 ∨ 0 = 6)) ∨ a = 10 ∨ (a = p ∧ (0 = 1 ∨ 0 = 17)) ∨ (p + 2 + E 0 0 ≤ a ∧ a < p + 70) ∨ a = p + 191) → nmd A a n → nmd A' a n := fun a n ha hn h => hx.nmd hS (decide_eq_false hn) (by omega) h
  obtain ⟨h1, ⟨h2, h3, h4, h5⟩, ⟨h6, h7, h8, h9⟩, ⟨h10, h11⟩, ⟨h12, h13⟩, h14⟩ := h
  refine ⟨fun k hk => ?_, ⟨?_, fun c hc => ?_, fun m hm => ?_, fun c hc => ?_⟩, ⟨?_, fun e he => ?_, fun e q he hq => ?_, fun e he => ?_⟩, ⟨?_, fun f hf => ⟨?_, fun c m hm hb => ?_⟩⟩, ⟨?_, fun s hs => ?_⟩, ?_⟩
  · obtain ⟨a1, a2, a3, a4⟩ := h1 k hk
    exact ⟨nm _ _ (by omega) (by omega) a1, by rw [d _ _ (by omega) (by omega)]; exact a2, by rw [d _ _ (by omega) (by omega)]; exact a3, by rw [d _ _ (by omega) (by omega)]; exact a4⟩
  · rw [d _ _ (by omega) (by omega)]; exact h2
  · rw [d _ _ (by omega) (by omega)]; exact h3 c hc
  · obtain ⟨a1, a2⟩ := h4 m hm
    exact ⟨nm _ _ (by omega) (by omega) a1, by rw [d _ _ (by omega) (by omega)]; exact a2⟩
  · exact nm _ _ (by omega) (by omega) (h5 c hc)
  · rw [d _ _ (by omega) (by omega)]; exact h6
  · rw [d _ _ (by omega) (by omega)]; exact h7 e he
  · obtain ⟨a1, a2⟩ := h8 e q he hq
    have := (w8 e he).2.2
    exact ⟨nm _ _ (by omega) (by omega) a1, by rw [d _ _ (by omega) (by omega)]; exact a2⟩
  · exact nm _ _ (by omega) (by omega) (h9 e he)
  · rw [d _ _ (by omega) (by omega)]; exact h10
  · rw [d _ _ (by omega) (by omega)]; exact (h11 f hf).1
  · rw [d _ _ (by omega) (by omega)]; exact (h11 f hf).2 c m hm hb
  · rw [d _ _ (by omega) (by omega)]; exact h12
  · rw [d _ _ (by omega) (by omega), d _ _ (by omega) (by omega), d _ _ (by omega) (by omega), d _ _ (by omega) (by omega), d _ _ (by omega) (by omega), d _ _ (by omega) (by omega), d _ _ (by omega) (by omega)]; exact h13 s hs
  · rw [d _ _ (by omega) (by omega)]; exact h14
theorem tokN.ex {B B' : Hp} {w u : Nat} {n : List Nat} (h : tokN B w u n) (h1 : B'.D (w + 1) = B.D (w + 1)) (h3 : B'.D (w + 3) = B.D (w + 3)) (h4 : B'.D (w + 4) = B.D (w + 4)) : tokN B' w u n := by
  obtain ⟨a1, a2, a3, f, a4, a5, a6⟩ := h
  exact ⟨a1, a2, by rw [h4]; exact a3, f, by rw [h3]; exact a4, a5, fun i hi => by rw [h1]; exact a6 i hi⟩
theorem ENB.ex {B B' : Hp} {w : Nat} {E : Nat → Nat → Nat} {Nm : Nat → Nat → List Nat} {Pv : Nat → Nat → Int32} (h : ENB B w E Nm Pv) (hx : same (SRo w) B B') : ENB B' w E Nm Pv := by
  have d : ∀ a f, ¬ SRo w a f → B'.D a f = B.D a f := hx.1
  have dd : ∀ a, (∀ f, ¬ SRo w a f) → B'.D a = B.D a := fun a ha => by funext f; exact d a f (ha f)
  have e1 := dd (w + 1) (fun f => by unfold SRo; omega)
  have e3 := dd (w + 3) (fun f => by unfold SRo; omega)
  have e4 := dd (w + 4) (fun f => by unfold SRo; omega)
  have t : ∀ u n, tokN B w u n → tokN B' w u n := fun u n h => h.ex e1 e3 e4
  have e8 := dd (w + 8) (fun f => by unfold SRo; omega)
  have e9 := dd (w + 9) (fun f => by unfold SRo; omega)
  have e10 := dd (w + 10) (fun f => by unfold SRo; omega)
  have e11 := dd (w + 11) (fun f => by unfold SRo; omega)
  have e12 := dd (w + 12) (fun f => by unfold SRo; omega)
  have e13 := dd (w + 13) (fun f => by unfold SRo; omega)
  have e14 := dd (w + 14) (fun f => by unfold SRo; omega)
  have e15 := dd (w + 15) (fun f => by unfold SRo; omega)
  have e16 := dd (w + 16) (fun f => by unfold SRo; omega)
  have e17 := dd (w + 17) (fun f => by unfold SRo; omega)
  have e18 := dd (w + 18) (fun f => by unfold SRo; omega)
  have e19 := dd (w + 19) (fun f => by unfold SRo; omega)
  have e20 := dd (w + 20) (fun f => by unfold SRo; omega)
  have e21 := dd (w + 21) (fun f => by unfold SRo; omega)
  have e22 := dd (w + 22) (fun f => by unfold SRo; omega)
  have e23 := dd (w + 23) (fun f => by unfold SRo; omega)
  have e24 := dd (w + 24) (fun f => by unfold SRo; omega)
  have e25 := dd (w + 25) (fun f => by unfold SRo; omega)
  have e26 := dd (w + 26) (fun f => by unfold SRo; omega)
  have f12 := d w 12 (by unfold SRo; omega)
  have f16 := d w 16 (by unfold SRo; omega)
  have f21 := d w 21 (by unfold SRo; omega)
  have f26 := d w 26 (by unfold SRo; omega)
  have f29 := d w 29 (by unfold SRo; omega)
  obtain ⟨⟨h1, h2⟩, ⟨h3, h4, h5, h6⟩, ⟨h7, h8, h9, h10⟩, ⟨h11, h12⟩, ⟨h13, h14⟩⟩ := h
  unfold ENB
  rw [e8, e9, e10, e11, e12, e13, e14, e15, e16, e17, e18, e19, e20, e21, e22, e23, e24, e25, e26, f12, f16, f21, f26, f29]
  refine ⟨⟨h1, fun k hk => ?_⟩, ⟨h3, h4, fun m hm => ?_, fun c hc => ?_⟩, ⟨h7, h8, fun e q he hq => ?_, fun e he => ?_⟩, ⟨h11, h12⟩, ⟨h13, h14⟩⟩
  · obtain ⟨⟨u, u1, u2⟩, u3⟩ := h2 k hk
    exact ⟨⟨u, u1, t u _ u2⟩, u3⟩
  · obtain ⟨⟨u, u1, u2⟩, u3⟩ := h5 m hm
    exact ⟨⟨u, u1, t u _ u2⟩, u3⟩
  · obtain ⟨u, u1, u2⟩ := h6 c hc
    exact ⟨u, u1, t u _ u2⟩
  · obtain ⟨⟨u, u1, u2⟩, u3⟩ := h9 e q he hq
    exact ⟨⟨u, u1, t u _ u2⟩, u3⟩
  · obtain ⟨u, u1, u2⟩ := h10 e he
    exact ⟨u, u1, t u _ u2⟩
