/-! ===== an input comes ===== -/
theorem inF_lo {cm bt ls cm2 bt2 : Nat → Int32} {c T p0 : Nat} (hT2 : T ≤ c + 33) (h1 : ∀ x, x < 256 → x ≠ 64 * p0 + T % 64 → cm2 x = cm x ∧ bt2 x = bt x) {pl : Nat} (hp : pl < 4) : ∀ t, t < T → inF cm2 bt2 ls c pl t = inF cm bt ls c pl t := by
  intro t
  induction t with
  | zero => intro _; rfl
  | succ t ih =>
    intro ht
    by_cases y : t + 1 ≤ c
    · rw [inF_le y, inF_le y]
    · obtain ⟨k1, k2⟩ := h1 (64 * pl + (t + 1) % 64) (by omega) (by omega)
      rw [inF_s, inF_s, ih (by omega), k1, k2]
theorem inF_ot {cm bt ls cm2 bt2 : Nat → Int32} {c T p0 : Nat} (h1 : ∀ x, x < 256 → x ≠ 64 * p0 + T % 64 → cm2 x = cm x ∧ bt2 x = bt x) {pl : Nat} (hp : pl < 4) (hn : pl ≠ p0) : ∀ t, inF cm2 bt2 ls c pl t = inF cm bt ls c pl t := by
  intro t
  induction t with
  | zero => rfl
  | succ t ih =>
    obtain ⟨k1, k2⟩ := h1 (64 * pl + (t + 1) % 64) (by omega) (by omega)
    rw [inF_s, inF_s, ih, k1, k2]
theorem inF_at {cm bt ls : Nat → Int32} {c T pl : Nat} (hT : c < T) (h : ¬ cm (64 * pl + T % 64) = 0) : inF cm bt ls c pl T = bt (64 * pl + T % 64) := by
  obtain ⟨t, rfl⟩ : ∃ t, T = t + 1 := ⟨T - 1, by omega⟩
  rw [inF_s, if_neg (by omega), if_neg h]
theorem inF_hi {cm bt ls cm2 bt2 : Nat → Int32} {c T pl : Nat} {v : Int32} (hp : pl < 4) (hT : c < T) (hT2 : T ≤ c + 33) (h1 : ∀ x, x < 256 → x ≠ 64 * pl + T % 64 → cm2 x = cm x ∧ bt2 x = bt x) (h2 : ¬ cm2 (64 * pl + T % 64) = 0) (h3 : bt2 (64 * pl + T % 64) = v) (hv : v = inF cm bt ls c pl T) : ∀ t, t ≤ c + 60 → inF cm2 bt2 ls c pl t = inF cm bt ls c pl t := by
  intro t
  induction t with
  | zero => intro _; rfl
  | succ t ih =>
    intro ht
    by_cases y : t + 1 < T
    · exact inF_lo hT2 h1 hp (t + 1) y
    · by_cases q : t + 1 = T
      · rw [q, inF_at hT h2, h3, hv]
      · obtain ⟨k1, k2⟩ := h1 (64 * pl + (t + 1) % 64) (by omega) (by omega)
        rw [inF_s, inF_s, ih (by omega), k1, k2]
section Par
variable {N p wo inp cs w u ir M K0 : Nat} {s pl : Int32} {ty mn nu cd : Nat → Int32} {E Q : Nat → Nat → Nat} {V : Nat → Nat → Int32} {nL lc : Nat} {lk : Nat → Nat} {hd : Nat → Int32}
/-- an input comes that changes nothing: above now, or as it was -/
theorem PLI.set {S : Nat → Nat} {b t0 la z us un c n T p0 : Nat} {v : Int32} {Nm : Nat → Nat → List Nat} {Pv : Nat → Nat → Int32} {A B A' B' : Hp} (h : PLI N p cs w M ty mn nu cd E Nm Pv S b t0 A la z B us un c n) (hE : WE E) (hp0 : p0 < 4) (hT : c < T) (hT2 : T ≤ n + 16) (hA : same (fun a f => (a = 125 ∨ a = 126) ∧ f = 64 * p0 + T % 64) A A') (hB : same (fun a f => ((a = 616 ∨ a = 617) ∧ f = 64 * p0 + T % 64) ∨ a = 620) B B') (a5 : A'.D 125 (64 * p0 + T % 64) = 1) (a6 : A'.D 126 (64 * p0 + T % 64) = v) (b7 : B'.D 617 (64 * p0 + T % 64) = 1) (b6 : B'.D 616 (64 * p0 + T % 64) = v) (hno : n < T ∨ v = inF (A.D 125) (A.D 126) (A.D 127) c p0 T) : PLI N p cs w M ty mn nu cd E Nm Pv S b t0 A' la z B' us un c n := by
  obtain ⟨⟨hGA, hGB, hTx, hL⟩, ⟨hus, hun, hne, b8, b9, b3⟩, ⟨n0, n1, n2, n3, n4, n5, n6⟩, ⟨Qn, x1, x2, x3⟩, ⟨Qs, y1, y2, y3⟩, hLk, hRw, hCm⟩ := h
  have hu1 := lU_le hus
  have hu2 := lU_le hun
  have dA : ∀ a f, ¬ ((a = 125 ∨ a = 126) ∧ f = 64 * p0 + T % 64) → A'.D a f = A.D a f := fun a f y => hA.1 a f y
  have dB : ∀ a f, ¬ (((a = 616 ∨ a = 617) ∧ f = 64 * p0 + T % 64) ∨ a = 620) → B'.D a f = B.D a f := fun a f y => hB.1 a f y
  have eA : ∀ a, a ≠ 125 → a ≠ 126 → A'.D a = A.D a := fun a z1 z2 => funext fun f => dA a f (by omega)
  have wA : ∀ m t a f, wt m t ≤ a → a ≤ wt m t + 5 → A'.D a f = A.D a f := fun m t a f z1 z2 => dA a f (by have := lW_le (wt_m (n := m) (t := t)); omega)
  have h1 : ∀ x, x < 256 → x ≠ 64 * p0 + T % 64 → A'.D 125 x = A.D 125 x ∧ A'.D 126 x = A.D 126 x := fun x _ z2 => ⟨dA _ _ (by omega), dA _ _ (by omega)⟩
  have a5' : ¬ A'.D 125 (64 * p0 + T % 64) = 0 := by rw [a5]; decide
  refine ⟨⟨hA.gr hGA, hB.gr hGB, hTx.fw hE hGA hL (hA.exS hL).exT hB.smT (fun a f y => by omega) (fun a f y => by omega), (hA.exS hL).1⟩, ⟨hus, hun, hne, by rw [hB.2.1]; exact b8, by rw [hB.2.1]; exact b9, by rw [hB.2.1]; exact b3⟩, ⟨n0, n1, n2, n3, by rw [dA _ _ (by omega)]; exact n4, by rw [dB _ _ (by omega)]; exact n5, by rw [dA _ _ (by omega)]; exact n6⟩, ⟨Qn, x1.fr (fun a f z1 z2 => dA a f (by omega)) (fun a f z1 z2 => dB a f (by omega)), x2.fr (fun a f z1 z2 => dB a f (by omega)), x3⟩, ⟨Qs, y1.fr (fun a f z1 z2 => wA _ _ a f z1 z2) (fun a f z1 z2 => dB a f (by omega)), y2.fr (fun a f z1 z2 => dB a f (by omega)), y3⟩, fun t z1 z2 => ?_, fun t z1 z2 => ?_, ?_⟩
  · rw [eA 129 (by decide) (by decide)]
    exact (hLk t z1 z2).fr (CEQ.fr fun a f k1 k2 => wA _ _ a f k1 k2) (CEQ.fr fun a f k1 k2 => wA _ _ a f k1 k2).symm
  · obtain ⟨q1, q2⟩ := hRw t z1 z2
    rw [eA 129 (by decide) (by decide), eA 128 (by decide) (by decide), eA 127 (by decide) (by decide), dB 618 _ (by omega)]
    refine ⟨fun x hx => ?_, q2⟩
    rw [q1 x hx]
    unfold ipV
    have key : inF (A'.D 125) (A'.D 126) (A.D 127) c x t = inF (A.D 125) (A.D 126) (A.D 127) c x t := by
      by_cases q : x = p0
      · subst q
        rcases hno with y | y
        · exact inF_lo (by omega) h1 hx t (by omega)
        · exact inF_hi hx hT (by omega) h1 a5' a6 y t (by omega)
      · exact inF_ot h1 hx q t
    rw [key]
  · refine ⟨fun x hx => ?_, fun x hx => ?_⟩
    · by_cases q : x = 64 * p0 + T % 64
      · rw [q, a5, b7, a6, b6]
        exact ⟨rfl, fun _ => rfl⟩
      · rw [dA _ _ (by omega), dA _ _ (by omega), dB _ _ (by omega), dB _ _ (by omega)]
        exact hCm.1 x hx
    · rw [dA _ _ (by omega), dB _ _ (by omega)]
      exact hCm.2 x hx
end Par
