/-! ===== an array that a statement makes ===== -/
theorem rf0_lt : ∀ q ∈ rf0, q.1 < 626 := by decide +kernel
theorem ENA.of {A A' : Hp} {p : Nat} {E : Nat → Nat → Nat} {Nm : Nat → Nat → List Nat} {Pv : Nat → Nat → Int32} (h : ENA A p E Nm Pv) (hE : WE E) (hp : p = 133 ∨ p = 325) (d : ∀ a f, a < 626 → A'.D a f = A.D a f) (nm : ∀ a n, nmd A a n → nmd A' a n) : ENA A' p E Nm Pv := by
  obtain ⟨⟨w1, w2, w3, w4, w5, w6, w7, w8, w9, w10, w11, w12, w13, w14, w15⟩⟩ : Nonempty _ := ⟨hE⟩
  obtain ⟨h1, ⟨h2, h3, h4, h5⟩, ⟨h6, h7, h8, h9⟩, ⟨h10, h11⟩, ⟨h12, h13⟩, h14⟩ := h
  refine ⟨fun k hk => ?_, ⟨?_, fun c hc => ?_, fun m hm => ?_, fun c hc => ?_⟩, ⟨?_, fun e he => ?_, fun e q he hq => ?_, fun e he => ?_⟩, ⟨?_, fun f hf => ⟨?_, fun c m hm hb => ?_⟩⟩, ⟨?_, fun s hs => ?_⟩, ?_⟩
  · obtain ⟨a1, a2, a3, a4⟩ := h1 k hk
    exact ⟨nm _ _ a1, by rw [d _ _ (by omega)]; exact a2, by rw [d _ _ (by omega)]; exact a3, by rw [d _ _ (by omega)]; exact a4⟩
  · rw [d _ _ (by omega)]; exact h2
  · rw [d _ _ (by omega)]; exact h3 c hc
  · obtain ⟨a1, a2⟩ := h4 m hm
    exact ⟨nm _ _ a1, by rw [d _ _ (by omega)]; exact a2⟩
  · exact nm _ _ (h5 c hc)
  · rw [d _ _ (by omega)]; exact h6
  · rw [d _ _ (by omega)]; exact h7 e he
  · obtain ⟨a1, a2⟩ := h8 e q he hq
    have := (w8 e he).2.2
    exact ⟨nm _ _ a1, by rw [d _ _ (by omega)]; exact a2⟩
  · exact nm _ _ (h9 e he)
  · rw [d _ _ (by omega)]; exact h10
  · rw [d _ _ (by omega)]; exact (h11 f hf).1
  · rw [d _ _ (by omega)]; exact (h11 f hf).2 c m hm hb
  · rw [d _ _ (by omega)]; exact h12
  · rw [d _ _ (by omega), d _ _ (by omega), d _ _ (by omega), d _ _ (by omega), d _ _ (by omega), d _ _ (by omega), d _ _ (by omega)]; exact h13 s hs
  · rw [d _ _ (by omega)]; exact h14
theorem str_arr {A : Hp} {a f s : Nat} {v : Int32} {n : List Nat} (h : strA A s n) (ha : A.sh[a]? = some (100, 4)) : strA (A.sD a f v) s n := by
  obtain ⟨h1, h2, h3, h4, b, h5, h6, h7⟩ := h
  have n1 : s ≠ a := fun z => by rw [z, ha] at h1; exact absurd h1 (by decide)
  have n2 : b ≠ a := fun z => by
    rw [z, ha] at h6
    have := congrArg (fun o => (o.getD (0, 0)).1) h6
    exact absurd this (by simp)
  exact ⟨h1, by rw [rdw n1]; exact h2, h3, h4, b, h5, h6, fun i hi => by rw [rdw n2]; exact h7 i hi⟩
section Par
variable {N p w T : Nat} {L : List (Nat × Nat × Int32 × Bool × Nat)} {g : Nat → Nat} {E : Nat → Nat → Nat} {Nm : Nat → Nat → List Nat} {Pv : Nat → Nat → Int32} {nL lc dp : Nat} {ln : Nat → List Nat} {lk lf : Nat → Nat} {hd : Nat → Int32}
theorem JA.arr {A : Hp} {i cs a f : Nat} {v : Int32} (h : (JA p T L g E Nm Pv nL lc dp ln lk lf hd i cs A)) (hE : WE E) (hp : p = 133 ∨ p = 325) (h12 : nL ≤ 12) (hs : A.sh[a]? = some (100, 4)) (ha : 626 ≤ a) : (JA p T L g E Nm Pv nL lc dp ln lk lf hd i cs (A.sD a f v)) := by
  have h56 : E 0 0 ≤ 56 := hE.2.2.2.2.2.2.2.2.2.2.2.2.2.1
  have nm : ∀ x n, nmd A x n → nmd (A.sD a f v) x n := fun x n ⟨s, s1, s2, s3, s4⟩ => ⟨s, s1, str_arr s2 hs, s3, s4⟩
  obtain ⟨hl, he, b1, b2, b3, b4, b5, b6, b7, b8, b9⟩ := h
  have hx : exA (fun x _ => decide (x = a)) 0 A (A.sD a f v) := exA.rf.sD (decide_eq_true rfl)
  have hS : okL (fun x _ => decide (x = a)) := by
    refine ⟨List.all_eq_true.mpr fun q hq => ?_, fun f => decide_eq_false (by omega), fun f => decide_eq_false (by omega), fun f => decide_eq_false (by omega), fun f => decide_eq_false (by omega), fun f => decide_eq_false (by omega), decide_eq_false (by omega), decide_eq_false (by omega)⟩
    have := rf0_lt q hq
    show (! decide (q.1 = a)) = true
    rw [decide_eq_false (by omega)]; rfl
  refine ⟨hl.ex hx hS (decide_eq_false (by omega)) (decide_eq_false (by omega)) (decide_eq_false (by omega)) (decide_eq_false (by omega)), he.of hE hp (fun x y hx => rdw (by omega)) nm, b1, by rw [rdw (by omega)]; exact b2, by rw [rdw (by omega)]; exact b3, by rw [rdw (by omega)]; exact b4, by rw [rdw (by omega)]; exact b5, by rw [rdw (by omega)]; exact b6, by rw [rdw (by omega)]; exact b7, fun k hk => ?_, fun l hl => by rw [rdw (by omega)]; exact b9 l hl⟩
  obtain ⟨a1, a2, a3, a4⟩ := b8 k hk
  exact ⟨nm _ _ a1, by rw [rdw (by omega)]; exact a2, by rw [rdw (by omega)]; exact a3, by rw [rdw (by omega)]; exact a4⟩
theorem exA_nw {S : Nat → Nat → Bool} {A : Hp} : exA S 1 A (A.nw (100, 4) 4) := by
  refine ⟨⟨[(100, 4)], rfl, by simp⟩, Nat.le_add_right _ _, by show A.sl + 4 ≤ A.sl + 40 * 1; omega, fun x y hx _ => ⟨?_, ?_⟩⟩
  · show (if x = A.sh.length then (0 : Int32) else A.D x y) = A.D x y
    rw [if_neg (by omega)]
  · show (if x = A.sh.length then Value.null else A.P x y) = A.P x y
    rw [if_neg (by omega)]
theorem JA.nw4 {A : Hp} {i cs : Nat} (h : (JA p T L g E Nm Pv nL lc dp ln lk lf hd i cs A)) (hE : WE E) (hp : p = 133 ∨ p = 325) (h12 : nL ≤ 12) : (JA p T L g E Nm Pv nL lc dp ln lk lf hd i cs (A.nw (100, 4) 4)) := by
  have h56 : E 0 0 ≤ 56 := hE.2.2.2.2.2.2.2.2.2.2.2.2.2.1
  have hle := h.1.1.1.len
  obtain ⟨hl, he, b1, b2, b3, b4, b5, b6, b7, b8, b9⟩ := h
  have hx : exA (SJ p (E 0 0)) 1 A (A.nw (100, 4) 4) := exA_nw
  have hz : exA (fun _ _ => false) 1 A (A.nw (100, 4) 4) := exA_nw
  have d : ∀ x y, x < 626 → (A.nw (100, 4) 4).D x y = A.D x y := fun x y hxx => (hz.2.2.2 x y (by omega) rfl).1
  refine ⟨hl.ex hx (SJ_ok hp h56) (decide_eq_false (by omega)) (decide_eq_false (by omega)) (decide_eq_false (by omega)) (decide_eq_false (by omega)), he.ex (hx.mono SJ_SBo (Nat.le_refl _)) hE hp hle, ?_, by rw [d _ _ (by omega)]; exact b2, by rw [d _ _ (by omega)]; exact b3, by rw [d _ _ (by omega)]; exact b4, by rw [d _ _ (by omega)]; exact b5, by rw [d _ _ (by omega)]; exact b6, by rw [d _ _ (by omega)]; exact b7, fun k hk => ?_, fun l hl => by rw [d _ _ (by omega)]; exact b9 l hl⟩
  · rw [(hz.2.2.2 9 1 (by omega) rfl).2]; exact b1
  · obtain ⟨a1, a2, a3, a4⟩ := b8 k hk
    exact ⟨hz.nmd (fun a f h => Bool.noConfusion h) rfl (by omega) a1, by rw [d _ _ (by omega)]; exact a2, by rw [d _ _ (by omega)]; exact a3, by rw [d _ _ (by omega)]; exact a4⟩
end Par
/-- more may change -/
theorem Out.mono {α β : Type} {S S2 : Nat → Nat → Bool} {R : Nat → Nat → Prop} {w : Nat} {L : List (Nat × Nat × Int32 × Bool × Nat)} {i : Nat} {A B : Hp} {fA : Option (Ot α × Hp)} {fB : Option (β × Hp)} {Post : Nat → α → Hp → β → Hp → Prop} (h : Out S R w L i A B fA fB Post) (hS : ∀ a f, S2 a f = false → S a f = false) : Out S2 R w L i A B fA fB Post := by
  rcases h with ⟨x, A', y, B', k, p0, e1, e2, e3, e4, e5, e6, e7⟩ | ⟨v, A', y, B', j, e1, e2, e3, e4, e5, e6, e7⟩
  · exact Or.inl ⟨x, A', y, B', k, p0, e1, e2, e3, e4, e5, e6.mono hS (Nat.le_refl _), e7⟩
  · exact Or.inr ⟨v, A', y, B', j, e1, e2, e3, e4, e5.mono hS (Nat.le_refl _), e6, e7⟩
