/-! ===== what the class presents; the two answers to an expression ===== -/
/-- the class presents the people Q and the values V to a system's row -/
def STA (A : Hp) (p wo inp cs : Nat) (cd : Nat → Int32) (E Q : Nat → Nat → Nat) (V : Nat → Nat → Int32) (nL lc : Nat) (hd : Nat → Int32) : Prop :=
  VS0 A p wo inp cs ∧ p ≠ 117 ∧ PPL Q A wo ∧
  (A.D 117 18 = nI (Q 4 0) ∧ Q 4 0 < 256 ∧ (256 : Int32) * A.D (wo + 1) (Q 4 0) + nI (Q 4 0) = V 9 0 ∧ A.D 117 17 = V 2 0 ∧ A.D wo 0 = V 0 0 ∧ A.D wo 1 = V 1 0) ∧
  (∀ x, x < 4 → A.D inp x = V 7 x) ∧ (A.D wo 10 = nI (Q 5 0) ∧ Q 5 0 ≤ 48) ∧
  (∀ c m, mOf E c m → E 18 (E 17 0 - 1) / 2 ^ c % 2 = 1 → A.D (wo + 3) (Q 4 0 * Q 5 0 + m) = V 5 m) ∧
  (∀ q c m, q < 256 → Q 1 q = 1 → Q 2 q / 2 ^ c % 2 = 1 → mOf E c m → E 21 (E 17 0 - 1) / 2 ^ c % 2 = 1 → A.D (wo + 3) (q * Q 5 0 + m) = V (100 + q) m) ∧
  (∀ n, n < nL → A.D 120 n = V 6 n) ∧
  (∀ e l, inn hd lc e l → e < E 9 0 → l < 21 ∧ A.D 121 l = nI (Q 3 l) ∧ Q 3 l < 256 ∧ ∀ q, q < E 10 e → A.D (wo + 4) (7 * Q 3 l + 3 + q) = V (400 + Q 3 l) q) ∧
  (∀ x, x < cs → A.D (p + 191) x = cd x)
def rz (tg : Nat) : Nat := if tg = 5 then 0 else if tg = 4 ∨ tg = 14 then 1 else if tg = 3 ∨ tg = 13 then 2 else 3
def lv (tg : Nat) : Nat := if tg < 10 then tg else tg - 10
def JR (N d tg i j : Nat) (v : Int32) (B B2 : Hp) : Prop := if tg < 10 then RL N d tg B = some (v, B2) else ∃ c, c ≤ j - i ∧ RL N d (tg - 10) B = RLo N d (tg - 10) (N - c) v B2
/-- both give the value v -/
def JO (N : Nat) (s pl : Int32) (d tg i j a b h : Nat) (A B : Hp) : Prop := ∃ n A2 B2 v dr2, n ≤ b - a ∧ VR N s pl n A A2 ∧ same (EXA h) A A2 ∧ CS A2 b (h + 1) ∧ A2.D 119 h = v ∧ A2.D 117 14 = dr2 ∧ JR N d tg i j v B B2 ∧ same EXB B B2 ∧ BS B2 j 0 dr2
/-- both fail with y -/
def JF (N : Nat) (s pl : Int32) (d tg j a b : Nat) (A B : Hp) : Prop := ∃ n A2 B2 v y j', n ≤ b - a ∧ VR N s pl n A A2 ∧ VF A A2 y ∧ 0 < y ∧ RL N d (lv tg) B = some (v, B2) ∧ same EXB B B2 ∧ B2.D 611 10 = y ∧ B2.D 611 11 = nI j' ∧ j' ≤ j
section Par
variable {N p wo inp cs w u ir M : Nat} {s pl : Int32} {ty mn nu cd : Nat → Int32} {E Q : Nat → Nat → Nat} {V : Nat → Nat → Int32} {nL lc : Nat} {lk : Nat → Nat} {hd : Nat → Int32}
theorem VS0.w9 {A : Hp} (h : VS0 A p wo inp cs) : wo ≠ 119 ∧ wo + 1 ≠ 119 ∧ wo + 2 ≠ 119 ∧ wo + 3 ≠ 119 ∧ wo + 4 ≠ 119 ∧ p + 191 ≠ 119 := by
  have h2 := rA_117_5 h.1
  refine ⟨fun z => ?_, fun z => ?_, fun z => ?_, fun z => ?_, fun z => ?_, fun z => ?_⟩
  · have h3 := WS h.2.2.1
    rw [z, h2] at h3
    exact absurd (congrArg Prod.fst (Option.some.inj h3)) (by decide)
  · have h3 := WA_7 h.2.2.1
    rw [z, h2] at h3
    exact absurd (congrArg Prod.snd (Option.some.inj h3)) (by decide)
  · have h3 := WA_8 h.2.2.1
    rw [z, h2] at h3
    exact absurd (congrArg Prod.snd (Option.some.inj h3)) (by decide)
  · have h3 := WA_11 h.2.2.1
    rw [z, h2] at h3
    exact absurd (congrArg Prod.snd (Option.some.inj h3)) (by decide)
  · have h3 := WA_12 h.2.2.1
    rw [z, h2] at h3
    exact absurd (congrArg Prod.snd (Option.some.inj h3)) (by decide)
  · have h3 := PrA_16 h.2.1
    rw [z, h2] at h3
    exact absurd (congrArg Prod.snd (Option.some.inj h3)) (by decide)
theorem STA.ex {A A' : Hp} {h : Nat} (k : STA A p wo inp cs cd E Q V nL lc hd) (hs : same (EXA h) A A') : STA A' p wo inp cs cd E Q V nL lc hd := by
  obtain ⟨h1, h2, h3, ⟨h4, h5, h6, h7, h8, h9⟩, h10, ⟨h11, h12⟩, h13, h14, h15, h16, h17⟩ := k
  obtain ⟨a0, a1, a2, a3, a4⟩ := h1.w
  obtain ⟨b0, b1, b2, b3, b4, b5⟩ := h1.w9
  obtain ⟨i1, i2⟩ := h1.i
  have hq := h1.q
  have hp9 : p ≠ 119 := fun z => by
    have k2 := rA_117_5 h1.1
    have k3 := PrS h1.2.1
    rw [z, k2] at k3
    exact absurd (congrArg Prod.fst (Option.some.inj k3)) (by decide)
  have f : ∀ a x, a ≠ 117 → a ≠ 119 → A'.D a x = A.D a x := fun a x z1 z2 => hs.1 a x (fun y => by unfold EXA at y; omega)
  have g : ∀ x, x = 17 ∨ x = 18 → A'.D 117 x = A.D 117 x := fun x z => hs.1 117 x (fun y => by unfold EXA at y; omega)
  refine ⟨h1.sm hs (by unfold EXA; omega), h2, ?_, ⟨by rw [g 18 (.inr rfl)]; exact h4, h5, by rw [f _ _ a1 b1]; exact h6, by rw [g 17 (.inl rfl)]; exact h7, by rw [f _ _ a0 b0]; exact h8, by rw [f _ _ a0 b0]; exact h9⟩, fun x k => by rw [f _ _ i1 i2]; exact h10 x k, ⟨by rw [f _ _ a0 b0]; exact h11, h12⟩, fun c m k1 k2 => by rw [f _ _ a3 b3]; exact h13 c m k1 k2, fun q c m k1 k2 k3 k4 k5 => by rw [f _ _ a3 b3]; exact h14 q c m k1 k2 k3 k4 k5, fun n k => by rw [f _ _ (by decide) (by decide)]; exact h15 n k, fun e l k1 k2 => ?_, fun x k => by rw [f _ _ hq b5]; exact h17 x k⟩
  · intro q hq
    rw [f _ _ a1 b1, f _ _ a2 b2]
    exact h3 q hq
  · obtain ⟨m0, m1, m2, m3⟩ := h16 e l k1 k2
    exact ⟨m0, by rw [f _ _ (by decide) (by decide)]; exact m1, m2, fun q k => by rw [f _ _ a4 b4]; exact m3 q k⟩
theorem JO.lo {d tg i j a b h n : Nat} {A A2 B B2 : Hp} {v dr2 : Int32} (ht : tg < 10) (h1 : n ≤ b - a) (h2 : VR N s pl n A A2) (h3 : same (EXA h) A A2) (h4 : CS A2 b (h + 1)) (h5 : A2.D 119 h = v) (h6 : A2.D 117 14 = dr2) (h7 : RL N d tg B = some (v, B2)) (h8 : same EXB B B2) (h9 : BS B2 j 0 dr2) : JO N s pl d tg i j a b h A B :=
  ⟨n, A2, B2, v, dr2, h1, h2, h3, h4, h5, h6, by unfold JR; rw [if_pos ht]; exact h7, h8, h9⟩
theorem JO.hi {d l i j a b h n c : Nat} {A A2 B B2 : Hp} {v dr2 : Int32} (h1 : n ≤ b - a) (h2 : VR N s pl n A A2) (h3 : same (EXA h) A A2) (h4 : CS A2 b (h + 1)) (h5 : A2.D 119 h = v) (h6 : A2.D 117 14 = dr2) (hc : c ≤ j - i) (h7 : RL N d l B = RLo N d l (N - c) v B2) (h8 : same EXB B B2) (h9 : BS B2 j 0 dr2) : JO N s pl d (10 + l) i j a b h A B :=
  ⟨n, A2, B2, v, dr2, h1, h2, h3, h4, h5, h6, by unfold JR; rw [if_neg (by omega), show 10 + l - 10 = l by omega]; exact ⟨c, hc, h7⟩, h8, h9⟩
theorem JO.out {d tg i j a b h : Nat} {A B : Hp} (ht : tg < 10) (k : JO N s pl d tg i j a b h A B) : ∃ n A2 B2 v dr2, n ≤ b - a ∧ VR N s pl n A A2 ∧ same (EXA h) A A2 ∧ CS A2 b (h + 1) ∧ A2.D 119 h = v ∧ A2.D 117 14 = dr2 ∧ RL N d tg B = some (v, B2) ∧ same EXB B B2 ∧ BS B2 j 0 dr2 := by
  obtain ⟨n, A2, B2, v, dr2, h1, h2, h3, h4, h5, h6, h7, h8, h9⟩ := k
  unfold JR at h7
  rw [if_pos ht] at h7
  exact ⟨n, A2, B2, v, dr2, h1, h2, h3, h4, h5, h6, h7, h8, h9⟩
theorem JO.ou {d l i j a b h : Nat} {A B : Hp} (k : JO N s pl d (10 + l) i j a b h A B) : ∃ n A2 B2 v dr2 c, n ≤ b - a ∧ VR N s pl n A A2 ∧ same (EXA h) A A2 ∧ CS A2 b (h + 1) ∧ A2.D 119 h = v ∧ A2.D 117 14 = dr2 ∧ c ≤ j - i ∧ RL N d l B = RLo N d l (N - c) v B2 ∧ same EXB B B2 ∧ BS B2 j 0 dr2 := by
  obtain ⟨n, A2, B2, v, dr2, h1, h2, h3, h4, h5, h6, h7, h8, h9⟩ := k
  unfold JR at h7
  rw [if_neg (by omega), show 10 + l - 10 = l by omega] at h7
  obtain ⟨c, h7, h10⟩ := h7
  exact ⟨n, A2, B2, v, dr2, c, h1, h2, h3, h4, h5, h6, h7, h10, h8, h9⟩
theorem JF.mk {d l tg j a b n j' : Nat} {A A2 B B2 : Hp} {v y : Int32} (hl : lv tg = l) (h1 : n ≤ b - a) (h2 : VR N s pl n A A2) (h3 : VF A A2 y) (h4 : 0 < y) (h5 : RL N d l B = some (v, B2)) (h6 : same EXB B B2) (h7 : B2.D 611 10 = y) (h8 : B2.D 611 11 = nI j') (h9 : j' ≤ j) : JF N s pl d tg j a b A B :=
  ⟨n, A2, B2, v, y, j', h1, h2, h3, h4, by rw [hl]; exact h5, h6, h7, h8, h9⟩
/-- an expression is answered alike -/
def JP (N : Nat) (s pl : Int32) (p wo inp cs w u ir M : Nat) (ty mn nu cd : Nat → Int32) (E Q : Nat → Nat → Nat) (V : Nat → Nat → Int32) (nL lc : Nat) (hd : Nat → Int32) (tg dp i j a b : Nat) : Prop := i < j ∧ a < b ∧ ∀ d A B h dr, STA A p wo inp cs cd E Q V nL lc hd → STB B w u ir M ty mn nu E Q V nL lc hd → CS A a h → A.D 117 14 = dr → BS B i 0 dr → h + 3 * (20 - dp) + rz tg < 160 → 2 * (20 - dp) + 1 ≤ d → j < M → b ≤ cs → JO N s pl d tg i j a b h A B ∨ JF N s pl d tg j a b A B
end Par
