/-! ===== from a group's rows to its commands ===== -/
section Par
variable {N p wo inp cs w u ir M K0 : Nat} {s pl : Int32} {ty mn nu cd : Nat → Int32} {E Q : Nat → Nat → Nat} {V : Nat → Nat → Int32} {nL lc : Nat} {lk : Nat → Nat} {hd : Nat → Int32}
theorem GS.aci {A B A2 B2 : Hp} {Pv V2 : Nat → Nat → Int32} {la z la2 z2 K : Nat} (h0 : TKI p wo inp cs w u ir M ty mn nu cd E Q Pv A la z B) (hE : WE E) (hw : wo ∈ lW) (hu : u ∈ lU) (hA : exS (FRG wo) A la z A2 la2 z2) (hB : same (FRH u) B B2) (h2 : GS p wo inp cs w u ir M ty mn nu cd E Q V2 A2 la2 z2 B2 K) (hK : K ≤ 32768) : ACI A2 p wo la2 z2 B2 w u K E Q Pv (V2 0 0) := by
  obtain ⟨a1, a2, ⟨w1, w2, w3, w4, w5, w6, w7⟩, ⟨t1, t2, t3, t4, t5, t6, t7, t8, t9⟩, a5, a6, a7, a8, a9, a10, a11, a12, a13, a14, a15⟩ := h0
  obtain ⟨⟨⟨b1, b2, b3, ⟨b4, b5⟩, b6, ⟨b7, b8⟩, b9, b10, ⟨x1, x2, x3, x4⟩, b12⟩, ⟨c1, c2, c3, c4, c5, ⟨y1, y2⟩, c7⟩, g3, g4, g5, g6, g7, g8⟩, h3, h4, h5, h6⟩ := h2
  have hwo := lW_le hw
  have hu' := lU_le hu
  have hT' := lT_le t2
  have hlen := a1.1.len
  have hla := a8.2.2.1
  have fA : ∀ a x, a < 626 → a ≠ 118 → ¬ FRG wo a x → A2.D a x = A.D a x := fun a x k1 k2 k3 => hA.2.2.1 a x (by omega) k3 (by omega)
  have fp : ∀ a x, p ≤ a → a ≤ p + 191 → A2.D a x = A.D a x := fun a x k1 k2 => fA a x (by omega) (by omega) (by unfold FRG; omega)
  have fB : ∀ a x, ¬ FRH u a x → B2.D a x = B.D a x := fun a x k => hB.1 a x k
  have fw : ∀ a x, w ≤ a → a ≤ w + 30 → B2.D a x = B.D a x := fun a x k1 k2 => fB a x (by unfold FRH; omega)
  refine ⟨b1.1, c1.1, hw, hu, h6, c1.2.2.2.2.1, g3, g5, hK, ⟨b3, c2, fun q c m k1 k2 k3 k4 => by rw [b9 q c m k1 k2 k3 k4, c5 q c m k1 k2 k3 k4], ⟨b7, b8, x3⟩, x1, ⟨x2.1, y1, x2.2, fun k hk => ?_⟩, by rw [fA _ _ (by omega) (by omega) (by unfold FRG; omega)]; exact w7.1, by rw [fB _ _ (by unfold FRH; omega)]; exact w7.2.1, w7.2.2.1, fun k hk => by rw [fA _ _ (by omega) (by omega) (by unfold FRG; omega), fB _ _ (by unfold FRH; omega)]; exact w7.2.2.2 k hk⟩, ⟨t1, t2, h5, c1.2.2.2.1, b12.1, fun m hm => ?_, c7, ⟨by rw [fp _ _ (by omega) (by omega)]; exact t8.1, fun f hf => ⟨by rw [fp _ _ (by omega) (by omega)]; exact (t8.2 f hf).1, fun c m k1 k2 => by rw [fp _ _ (by omega) (by omega)]; exact (t8.2 f hf).2 c m k1 k2⟩⟩, ⟨by rw [fw _ _ (by omega) (by omega)]; exact t9.1, fun f hf => ⟨by rw [fw _ _ (by omega) (by omega)]; exact (t9.2 f hf).1, fun c m k1 k2 => by rw [fw _ _ (by omega) (by omega)]; exact (t9.2 f hf).2 c m k1 k2⟩⟩⟩, g7, b4, g4, g6, by rw [fA _ _ (by omega) (by omega) (by unfold FRG; omega), fB _ _ (by unfold FRH; omega)]; exact a14⟩
  · obtain ⟨m0, m1, m2, m3⟩ := x4 k hk
    obtain ⟨n0, n1, n2, n3⟩ := y2 k hk
    exact ⟨by rw [m0, n0], by rw [m1, n1], by rw [m2, n2], fun e q k1 k2 k3 => by rw [m3 e q (by rw [← n0]; exact k1) k2 k3, n3 e q (by rw [← n0]; exact k1) k2 k3]⟩
  · have := hE.2.2.2.1
    rw [fp _ _ (by omega) (by omega)]
    exact t6 m hm
theorem GS.lkc {A2 B2 : Hp} {V2 : Nat → Nat → Int32} {la2 z2 K : Nat} (h2 : GS p wo inp cs w u ir M ty mn nu cd E Q V2 A2 la2 z2 B2 K) (hPe : PEV E Q B2 u) : LKC E Q B2 u := by
  obtain ⟨⟨hA, ⟨c1, c2, c3, c4, c5, ⟨y1, y2⟩, c7⟩, g3, g4, g5, g6, g7, g8, g9⟩, -⟩ := h2
  refine ⟨g9.1, fun q c m z1 z2 z3 z4 z5 => ?_, fun k hk e q z1 z2 z3 z4 => ?_, hPe⟩
  · rw [c5 q c m z1 z2 z3 z4]
    exact g9.2.2.1 q c m z1 z2 z3 z4 z5
  · obtain ⟨n0, n1, n2, n3⟩ := y2 k hk
    rw [n0] at z1
    rw [n3 e q z1 z2 z3]
    exact g9.2.2.2 k hk e q z1 z2 z3 z4
/-- and back -/
theorem ACI.tki {A B A2 B2 A3 B3 : Hp} {Q3 : Nat → Nat → Nat} {Pv V2 : Nat → Nat → Int32} {tk : Int32} {la2 z2 K : Nat} (h2 : GS p wo inp cs w u ir M ty mn nu cd E Q V2 A2 la2 z2 B2 K) (h3 : ACI A3 p wo la2 z2 B3 w u K E Q3 Pv tk) (hA : same (WDA wo) A2 A3) (hB : same (WDB u) B2 B3) : TKI p wo inp cs w u ir M ty mn nu cd E Q3 Pv A3 la2 z2 B3 := by
  have ⟨a1, a2, hw, hu, a5, a6, a7, a8, a9, a10, a11, a12, a13, a14, a15, a16⟩ := h3
  obtain ⟨⟨⟨b1, b2, b3, ⟨b4, b5⟩, b6, ⟨b7, b8⟩, b9, b10, ⟨x1, x2, x3, x4⟩, b12⟩, ⟨c1, c2, ⟨c3, c3'⟩, c4, c5, ⟨y1, y2⟩, c7⟩, g3, g4, g5, g6, g7, g8⟩, h3', h4, h5, h6⟩ := h2
  obtain ⟨t1, t2, -⟩ := a11
  have hwo := lW_le hw
  have hu' := lU_le hu
  have hT' := lT_le t2
  have W := b1.2.2.1
  have U := c1.2.2.1
  have ni : ∀ f, ¬ WDA wo inp f := fun f k => by
    have s4 := b1.2.2.2.2.2.2.1
    rcases k with (⟨k, -⟩ | ⟨k1, k2⟩) | ⟨k, -⟩
    · rw [k, WS W] at s4; exact absurd s4 (by decide)
    · have : inp = wo + 1 ∨ inp = wo + 2 ∨ inp = wo + 3 ∨ inp = wo + 4 ∨ inp = wo + 5 := by omega
      rcases this with k | k | k | k | k
      · rw [k, WA_7 W] at s4; exact absurd s4 (by decide)
      · rw [k, WA_8 W] at s4; exact absurd s4 (by decide)
      · rw [k, WA_11 W] at s4; exact absurd s4 (by decide)
      · rw [k, WA_12 W] at s4; exact absurd s4 (by decide)
      · rw [k, WA_14 W] at s4; exact absurd s4 (by decide)
    · rw [k, WS W] at s4; exact absurd s4 (by decide)
  have nr : ∀ f, ¬ WDB u ir f := fun f k => by
    have s4 := c1.2.2.2.2.2.2.1
    rcases k with (⟨k, -⟩ | ⟨k1, k2⟩) | ⟨k, -⟩
    · rw [k, US U] at s4; exact absurd s4 (by decide)
    · have : ir = u + 1 ∨ ir = u + 2 ∨ ir = u + 3 ∨ ir = u + 4 ∨ ir = u + 5 ∨ ir = u + 6 ∨ ir = u + 7 ∨ ir = u + 8 ∨ ir = u + 9 := by omega
      rcases this with k | k | k | k | k | k | k | k | k
      · rw [k, UA_4 U] at s4; exact absurd s4 (by decide)
      · rw [k, UA_5 U] at s4; exact absurd s4 (by decide)
      · rw [k, UA_6 U] at s4; exact absurd s4 (by decide)
      · rw [k, UA_7 U] at s4; exact absurd s4 (by decide)
      · rw [k, UA_9 U] at s4; exact absurd s4 (by decide)
      · rw [k, UA_10 U] at s4; exact absurd s4 (by decide)
      · rw [k, UA_11 U] at s4; exact absurd s4 (by decide)
      · rw [k, UA_12 U] at s4; exact absurd s4 (by decide)
      · rw [k, UA_17 U] at s4; exact absurd s4 (by decide)
    · rw [k, US U] at s4; exact absurd s4 (by decide)
  have np : ∀ a f, p ≤ a → ¬ WDA wo a f := fun a f k => by unfold WDA WCA; omega
  have nw : ∀ a f, a ≤ w + 30 → ¬ WDB u a f := fun a f k => by unfold WDB WCB; omega
  refine ⟨b1.sm hA (np _ _ (by omega)), c1.sm hB (fun i => ⟨nw _ _ (by omega), nw _ _ (by omega), nw _ _ (by omega)⟩), a10, h3.2.2.2.2.2.2.2.2.2.2.1, ⟨fun c hc => by rw [hA.1 _ _ (np _ _ (by omega))]; exact b12.1 c hc, by rw [hA.1 _ _ (np _ _ (by omega))]; exact b12.2.1, fun e he => by rw [hA.1 _ _ (np _ _ (by omega))]; exact b12.2.2 e he⟩, ⟨by rw [hA.1 _ _ (np _ _ (by omega))]; exact h3'.1, fun s hs => by rw [hA.1 _ _ (np _ _ (by omega)), hA.1 _ _ (np _ _ (by omega)), hA.1 _ _ (np _ _ (by omega)), hA.1 _ _ (np _ _ (by omega))]; exact h3'.2 s hs⟩, ⟨by rw [hB.1 _ _ (nw _ _ (by omega))]; exact h4.1, fun s hs => by rw [hB.1 _ _ (nw _ _ (by omega)), hB.1 _ _ (nw _ _ (by omega)), hB.1 _ _ (nw _ _ (by omega)), hB.1 _ _ (nw _ _ (by omega))]; exact h4.2 s hs⟩, a7, a5, fun x hx => by rw [hA.1 _ _ (np _ _ (by omega))]; exact b10 x hx, fun x hx => by rw [hA.1 _ _ (ni _), hB.1 _ _ (nr _), b6 x hx, c4 x hx], ?_, ?_, a16, ?_⟩
  · rw [hA.1 _ _ (by unfold WDA WCA; omega), hB.1 _ _ (by unfold WDB WCB; omega), b4, c3]
  · rw [hA.1 _ _ (by unfold WDA WCA; omega), hB.1 _ _ (by unfold WDB WCB; omega), b5, c3']
  · unfold FLR
    rw [hA.1 wo 2 (by unfold WDA WCA; omega), hA.1 wo 4 (by unfold WDA WCA; omega), hA.1 wo 5 (by unfold WDA WCA; omega), hA.1 wo 6 (by unfold WDA WCA; omega), hB.1 u 2 (by unfold WDB WCB; omega), hB.1 u 13 (by unfold WDB WCB; omega), hB.1 u 14 (by unfold WDB WCB; omega), hB.1 u 15 (by unfold WDB WCB; omega)]
    exact g8.1
end Par
