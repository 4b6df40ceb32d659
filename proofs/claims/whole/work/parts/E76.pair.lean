/-! ===== a pair of worlds over a copy of the reference's ===== -/
section Par
variable {N p wo inp cs w u ir M K0 : Nat} {s pl : Int32} {ty mn nu cd : Nat → Int32} {E Q : Nat → Nat → Nat} {V : Nat → Nat → Int32} {nL lc : Nat} {lk : Nat → Nat} {hd : Nat → Int32}
theorem nar_b {Q : Nat → Nat → Nat} {B : Hp} {u q : Nat} (h : PPB Q B u) (hq : q < 256) : vp_nar .boolean (B.D (u + 2) q) = B.D (u + 2) q := by
  rw [(h q hq).2.2.2.1]
  split <;> rfl
theorem WPR.cpB {A B : Hp} {u2 : Nat} (h : WPR A wo B u2 E Q) (hN : 2000000 ≤ N) (hu : u ∈ lU) (hu2 : u2 ∈ lU) (hn : u ≠ u2) (hG : Gr B) (hE : WE E) : ∃ B2, F_MWorld_copies N u u2 B = some ((), B2) ∧ same (cU u) B B2 ∧ WPR A wo B2 u E Q ∧ ∀ S, RVB S E Q B u2 → RVB S E Q B2 u := by
  have dj := lU_dj hu hu2 hn
  have U := gr_U hG u hu
  have U2 := gr_U hG u2 hu2
  obtain ⟨⟨w1, w2, w3, w4, w5, w6, w7⟩, a0, a1, a3, a15⟩ := h
  have iU : ∀ (R : Nat → Nat → Prop) (H K : Hp), same R H K → ∀ v, isU H v → isU K v := fun R H K h v V => by
    obtain ⟨q1, q2, q3, q4, q5⟩ := h
    unfold isU at V ⊢
    rw [q2, q4]
    exact V
  obtain ⟨B1, r1, r2, r3⟩ := cp_B0 (N := N) (u := u) (u2 := u2) (fun y => hn y.symm) U U2
  obtain ⟨C1, s1, s2, s3⟩ := cb74 (N := N) dj 32 N 0 B1 (by omega) (by omega) (iU _ _ _ r2 u U) (iU _ _ _ r2 u2 U2)
  have q1 : same (cU u) B B1 := r2.mono fun a f y => by unfold cU; omega
  have q2 : same (cU u) B C1 := q1.tr (s2.mono fun a f y => by unfold cU; omega)
  have o2 : ∀ H : Hp, same (cU u) B H → ∀ a f, u2 ≤ a → a ≤ u2 + 9 → H.D a f = B.D a f := fun H h a f y1 y2 => h.1 a f (by unfold cU; omega)
  obtain ⟨D1, t1, t2, t3⟩ := cb100 (N := N) dj 256 N 0 C1 (by omega) (by omega) (iU _ _ _ q2 u U) (iU _ _ _ q2 u2 U2) (fun x hx => by rw [o2 _ q2 _ _ (by omega) (by omega)]; exact nar_b w2 hx)
  have q3 : same (cU u) B D1 := q2.tr (t2.mono fun a f y => by unfold cU; omega)
  obtain ⟨E1, v1, v2, v3⟩ := cb151 (N := N) dj 12288 N 0 D1 (by omega) (by omega) (iU _ _ _ q3 u U) (iU _ _ _ q3 u2 U2)
  have q4 : same (cU u) B E1 := q3.tr (v2.mono fun a f y => by unfold cU; omega)
  have f0 : ∀ f, f < 4 ∨ f = 8 ∨ (13 ≤ f ∧ f ≤ 16) → E1.D u f = B.D u2 f := fun f y => by
    rw [v2.1 _ _ (by omega), t2.1 _ _ (by omega), s2.1 _ _ (by omega)]
    exact r3 f y
  obtain ⟨F1, x1, x2, -, x3⟩ := cb178 (N := N) (P := Q 5 2) (by omega) dj w6.2.2.1 (Q 5 2) N 0 E1 (by omega) (by have := w6.2.2.1; omega) (iU _ _ _ q4 u U) (iU _ _ _ q4 u2 U2) (by rw [f0 8 (by omega)]; exact w6.2.1)
  have q5 : same (cU u) B F1 := q4.tr (x2.mono fun a f y => by unfold cU; omega)
  have g0 : ∀ f, f < 4 ∨ f = 8 ∨ (13 ≤ f ∧ f ≤ 16) → F1.D u f = B.D u2 f := fun f y => by
    rw [x2.1 _ _ (by omega)]
    exact f0 f y
  have g9 : ∀ x, x < 32 → F1.D (u + 9) x = B.D (u2 + 9) x := fun x y => by
    rw [x2.1 _ _ (by omega), v2.1 _ _ (by omega), t2.1 _ _ (by omega), s3 x (by omega) y]
    exact o2 _ q1 _ _ (by omega) (by omega)
  have g1 : ∀ x, x < 256 → F1.D (u + 1) x = B.D (u2 + 1) x ∧ F1.D (u + 2) x = B.D (u2 + 2) x ∧ F1.D (u + 3) x = B.D (u2 + 3) x := fun x y => by
    obtain ⟨k1, k2, k3⟩ := t3 x (by omega) y
    rw [x2.1 _ _ (by omega), v2.1 _ _ (by omega), k1, x2.1 _ _ (by omega), v2.1 _ _ (by omega), k2, x2.1 _ _ (by omega), v2.1 _ _ (by omega), k3]
    exact ⟨o2 _ q2 _ _ (by omega) (by omega), o2 _ q2 _ _ (by omega) (by omega), o2 _ q2 _ _ (by omega) (by omega)⟩
  have g4 : ∀ x, x < 12288 → F1.D (u + 4) x = B.D (u2 + 4) x := fun x y => by
    rw [x2.1 _ _ (by omega), v3 x (by omega) y]
    exact o2 _ q3 _ _ (by omega) (by omega)
  have g5 : ∀ k, k < Q 5 2 → F1.D (u + 5) k = B.D (u2 + 5) k ∧ F1.D (u + 6) k = B.D (u2 + 6) k ∧ F1.D (u + 7) k = B.D (u2 + 7) k ∧ ∀ q, q < 4 → F1.D (u + 8) (4 * k + q) = B.D (u2 + 8) (4 * k + q) := fun k hk => by
    obtain ⟨k1, k2, k3, k4⟩ := x3 k (by omega) hk
    rw [k1, k2, k3]
    exact ⟨o2 _ q4 _ _ (by omega) (by omega), o2 _ q4 _ _ (by omega) (by omega), o2 _ q4 _ _ (by omega) (by omega), fun q hq => by rw [k4 q hq]; exact o2 _ q4 _ _ (by omega) (by omega)⟩
  refine ⟨F1, ?_, q5, ⟨⟨w1, fun q hq => ?_, fun q c m y1 y2 y3 y4 => ?_, w4, w5, ⟨w6.1, by rw [g0 8 (by omega)]; exact w6.2.1, w6.2.2.1, fun k hk => ?_⟩, w7.1, by rw [g0 16 (by omega)]; exact w7.2.1, w7.2.2.1, fun k hk => by rw [g9 k (by have := w7.2.2.1; omega)]; exact w7.2.2.2 k hk⟩, by rw [g0 0 (by omega)]; exact a0, by rw [g0 1 (by omega)]; exact a1, by rw [g0 3 (by omega)]; exact a3, ?_⟩, fun S hR => ⟨fun q c m y1 y2 y3 y4 y5 => ?_, fun k hk e q y1 y2 y3 y4 => ?_, fun k hk => by rw [(g5 k hk).1]; exact hR.2.2 k hk⟩⟩
  · rw [r1, s1, t1, v1]
    exact x1
  · obtain ⟨k1, k2, k3⟩ := g1 q hq
    rw [k1, k2, k3]
    exact w2 q hq
  · have := (mOf_lt hE y4).2.1
    rw [g4 _ (by omega)]
    exact w3 q c m y1 y2 y3 y4
  · obtain ⟨k1, k2, k3, k4⟩ := g5 k hk
    obtain ⟨m0, m1, m2, m3⟩ := w6.2.2.2 k hk
    rw [k1, k2, k3]
    refine ⟨m0, m1, m2, fun e q y1 y2 y3 => ?_⟩
    have e4 := (hE.2.2.2.2.2.2.2.1 e y2).1
    rw [k4 q (by omega)]
    exact m3 e q y1 y2 y3
  · unfold FLR
    rw [g0 2 (by omega), g0 13 (by omega), g0 14 (by omega), g0 15 (by omega)]
    exact a15
  · have := (mOf_lt hE y4).2.1
    rw [g4 _ (by omega)]
    exact hR.1 q c m y1 y2 y3 y4 y5
  · obtain ⟨k1, k2, k3, k4⟩ := g5 k hk
    have e4 := (hE.2.2.2.2.2.2.2.1 e y2).1
    rw [k1] at y1
    rw [k4 q (by omega)]
    exact hR.2.1 k hk e q y1 y2 y3 y4
/-- a pair of worlds over changes elsewhere -/
theorem WPR.fr {A B A1 B1 : Hp} (h : WPR A wo B u E Q) (dA : ∀ a f, wo ≤ a → a ≤ wo + 5 → A1.D a f = A.D a f) (dB : ∀ a f, u ≤ a → a ≤ u + 9 → B1.D a f = B.D a f) : WPR A1 wo B1 u E Q := by
  obtain ⟨h1, a0, a1, a3, a15⟩ := h
  refine ⟨h1.fr (fun a f y => dA a f (by omega) (by omega)) (fun a f y => dB a f (by omega) (by omega)), by rw [dA _ _ (by omega) (by omega), dB _ _ (by omega) (by omega)]; exact a0, by rw [dA _ _ (by omega) (by omega), dB _ _ (by omega) (by omega)]; exact a1, by rw [dA _ _ (by omega) (by omega), dB _ _ (by omega) (by omega)]; exact a3, ?_⟩
  unfold FLR
  rw [dA wo 2 (by omega) (by omega), dA wo 4 (by omega) (by omega), dA wo 5 (by omega) (by omega), dA wo 6 (by omega) (by omega), dB u 2 (by omega) (by omega), dB u 13 (by omega) (by omega), dB u 14 (by omega) (by omega), dB u 15 (by omega) (by omega)]
  exact a15
theorem RVB.fr {S : Nat → Nat} {B B1 : Hp} (h : RVB S E Q B u) (dB : ∀ a f, u ≤ a → a ≤ u + 9 → B1.D a f = B.D a f) : RVB S E Q B1 u :=
  ⟨fun q c m y1 y2 y3 y4 y5 => by rw [dB _ _ (by omega) (by omega)]; exact h.1 q c m y1 y2 y3 y4 y5, fun k hk e q y1 y2 y3 y4 => by rw [dB _ _ (by omega) (by omega)] at y1; rw [dB _ _ (by omega) (by omega)]; exact h.2.1 k hk e q y1 y2 y3 y4, fun k hk => by rw [dB _ _ (by omega) (by omega)]; exact h.2.2 k hk⟩
end Par
