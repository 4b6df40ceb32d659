/-! ===== hear ===== -/
section Par
variable {N p wo inp cs w u ir M K0 : Nat} {s pl : Int32} {ty mn nu cd : Nat → Int32} {E Q : Nat → Nat → Nat} {V : Nat → Nat → Int32} {nL lc : Nat} {lk : Nat → Nat} {hd : Nat → Int32}
theorem SB.fr4 {B B2 : Hp} {R : Nat → Nat → Prop} {V2 : Nat → Nat → Int32} {n2 l2 : Nat} {hd2 : Nat → Int32} (h : SB B w u ir M ty mn nu E Q V nL lc hd) (hw : w ∈ lT) (hu : u ∈ lU) (hs : same R B B2) (hR : ∀ a f, R a f → a = 611 ∧ f ≠ 5 ∧ f ≠ 6 ∨ a = 612 ∨ a = 613 ∨ a = 614 ∨ a = 615) (hn : n2 ≤ 12) (hV : ∀ x, x ≠ 5 → x ≠ 6 → V2 x = V x) (k5 : ∀ c m, mOf E c m → E 18 (E 17 0 - 1) / 2 ^ c % 2 = 1 → B2.D 613 m = V2 5 m) (k6 : ∀ n, n < n2 → B2.D 614 n = V2 6 n) (k12 : ∀ e l, inn hd2 l2 e l → e < E 9 0 → B2.D 615 e = nI (Q 3 l) ∧ Q 3 l < 256 ∧ ∀ q, q < E 10 e → B2.D (u + 8) (4 * Q 3 l + q) = V2 (400 + Q 3 l) q) : SB B2 w u ir M ty mn nu E Q V2 n2 l2 hd2 := by
  have hw' := lT_le hw
  have hu' := lU_le hu
  obtain ⟨⟨h1, h2, h3, ⟨h4, h5, h6, h7⟩, h8, h9, h10, h11, h12⟩, ⟨a1, a2⟩, b1, b2, b3, b4⟩ := h
  have hG := h1.1
  have hi : B.sh[ir]? = some (100, 4) := h1.2.2.2.2.2.2.1
  have i6 : ir ≠ 611 ∧ ir ≠ 612 ∧ ir ≠ 614 ∧ ir ≠ 613 ∧ ir ≠ 615 := by
    refine ⟨fun y => ?_, fun y => ?_, fun y => ?_, fun y => ?_, fun y => ?_⟩
    · rw [y, rS_611 hG] at hi; exact absurd (congrArg Prod.fst (Option.some.inj hi)) (by decide)
    · rw [y, rA_611_3 hG] at hi; exact absurd (congrArg Prod.snd (Option.some.inj hi)) (by decide)
    · rw [y, rA_611_14 hG] at hi; exact absurd (congrArg Prod.snd (Option.some.inj hi)) (by decide)
    · rw [y, rA_611_13 hG] at hi; exact absurd (congrArg Prod.snd (Option.some.inj hi)) (by decide)
    · rw [y, rA_611_15 hG] at hi; exact absurd (congrArg Prod.snd (Option.some.inj hi)) (by decide)
  have f : ∀ a x, (w ≤ a ∧ a ≤ w + 30) ∨ (u ≤ a ∧ a ≤ u + 9) ∨ a = ir ∨ (a = 611 ∧ (x = 5 ∨ x = 6)) → B2.D a x = B.D a x := fun a x k => hs.1 a x (fun y => by have := hR a x y; omega)
  refine ⟨⟨h1.sm hs (fun i => ⟨fun y => by have := hR _ _ y; omega, fun y => by have := hR _ _ y; omega, fun y => by have := hR _ _ y; omega⟩), fun q hq => by rw [f _ _ (by omega), f _ _ (by omega), f _ _ (by omega)]; exact h2 q hq, hn, ⟨by rw [f _ _ (by omega), hV 9 (by decide) (by decide)]; exact h4, by rw [f _ _ (by omega), hV 2 (by decide) (by decide)]; exact h5, by rw [f _ _ (by omega), hV 0 (by decide) (by decide)]; exact h6, by rw [f _ _ (by omega), hV 1 (by decide) (by decide)]; exact h7⟩, fun x k => by rw [f _ _ (by omega), hV 7 (by decide) (by decide)]; exact h8 x k, k5, fun q c m y1 y2 y3 y4 y5 => by rw [f _ _ (by omega), hV (100 + q) (by omega) (by omega)]; exact h10 q c m y1 y2 y3 y4 y5, k6, k12⟩, ⟨by rw [f _ _ (by omega)]; exact a1, fun k hk => ?_⟩, fun c k => by rw [f _ _ (by omega)]; exact b1 c k, fun m k => by rw [f _ _ (by omega)]; exact b2 m k, fun e k => by rw [f _ _ (by omega)]; exact b3 e k, fun e q k1 k2 => by rw [f _ _ (by omega)]; exact b4 e q k1 k2⟩
  · obtain ⟨m0, m1, m2, m3⟩ := a2 k hk
    rw [hV 20 (by decide) (by decide), hV 21 (by decide) (by decide), hV 22 (by decide) (by decide), hV (400 + k) (by omega) (by omega)]
    exact ⟨by rw [f _ _ (by omega)]; exact m0, by rw [f _ _ (by omega)]; exact m1, by rw [f _ _ (by omega)]; exact m2, fun e q y1 y2 y3 => by rw [f _ _ (by omega)]; exact m3 e q y1 y2 y3⟩
/-- back to the loops around -/
theorem SIN.back {hdx : Nat → Int32} {i0 i a0 a h0 h mk0 mk st0 st la0 la z0 z n0 : Nat} {dr0 dr : Int32} {V0 : Nat → Nat → Int32} {A0 A B0 B : Hp} (hF : (FIX N p wo w u K0 M E)) (hI0 : (SIN p wo inp cs w u ir M ty mn nu cd E Q V0 n0 lc hd K0 i0 a0 h0 A0 la0 z0 B0 mk0 st0 dr0)) (hI : (SIN p wo inp cs w u ir M ty mn nu cd E Q V nL lc hdx K0 i a h A la z B mk st dr)) (hA : exS (FRA wo (Q 4 0 * Q 5 0) E lc) A0 la0 z0 A la z) (hB : same (FRB E) B0 B) (hV : ∀ x, x ≠ 5 → x ≠ 6 → V x = V0 x) (hx6 : ∀ n, n < nL → hd (100 + n) = 1004 → hdx (100 + n) = 1004) : (SIN p wo inp cs w u ir M ty mn nu cd E Q V nL lc hd K0 i a h A la z B mk st dr) := by
  obtain ⟨j1, j2, j3, j4, j5⟩ := hI0
  obtain ⟨i1, i2, i3, i4, i5⟩ := hI
  have hwo := lW_le hF.2.2.2.2.1
  have hu := lU_le hF.2.2.2.2.2.2.1
  have hlen := j1.1.1.1.len
  have hla := j5.1.2.2.1
  refine ⟨i1.hq (fun _ _ => rfl) (fun e l y1 y2 => ?_) (i1.2.2.2.hq (fun _ _ => rfl) hx6 (fun e l q y1 y2 y3 y4 => by rw [hV (400 + Q 3 l) (by omega) (by omega)]; exact j1.2.2.2.2.2.2 e l q y1 y2 y3 y4)), i2.hq (fun _ _ => rfl) (fun e l y1 y2 => ?_), i3, i4, i5⟩
  · obtain ⟨m0, m1, m2, m3⟩ := j1.1.2.2.2.2.2.2.2.2.2.1 e l y1 y2
    have hl := y1.1
    refine ⟨m0, ?_, m2, fun q hq => ?_⟩
    · rw [hA.2.2.1 121 l (by omega) (by unfold FRA; omega) (by omega)]
      exact m1
    · rw [hA.2.2.1 (wo + 4) _ (by omega) (fun y => by unfold FRA at y; omega) (by omega), hV (400 + Q 3 l) (by omega) (by omega)]
      exact m3 q hq
  · obtain ⟨m1, m2, m3⟩ := j2.1.2.2.2.2.2.2.2.2 e l y1 y2
    refine ⟨?_, m2, fun q hq => ?_⟩
    · rw [hB.1 615 e (by unfold FRB; omega)]
      exact m1
    · rw [hB.1 (u + 8) _ (by unfold FRB; omega), hV (400 + Q 3 l) (by omega) (by omega)]
      exact m3 q hq
end Par
