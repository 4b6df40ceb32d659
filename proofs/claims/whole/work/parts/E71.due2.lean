/-! ===== what is due, between ticks ===== -/
section Par
variable {N p wo inp cs w u ir M K0 : Nat} {s pl : Int32} {ty mn nu cd : Nat → Int32} {E Q : Nat → Nat → Nat} {V : Nat → Nat → Int32} {nL lc : Nat} {lk : Nat → Nat} {hd : Nat → Int32}
/-- other worlds, the same texts -/
theorem TKI.fr {A B A1 B1 : Hp} {Q2 : Nat → Nat → Nat} {Pv : Nat → Nat → Int32} {la z : Nat} (h : TKI p wo inp cs w u ir M ty mn nu cd E Q Pv A la z B) (hw : wo ∈ lW) (hu : u ∈ lU) (hA : same (fun a _ => wo ≤ a ∧ a ≤ wo + 5) A A1) (hB : same (fun a _ => u ≤ a ∧ a ≤ u + 9) B B1) (hW : WRL A1 wo B1 u E Q2) (e0 : A1.D wo 0 = B1.D u 0) (e1 : A1.D wo 1 = B1.D u 1) (e3 : A1.D wo 3 = B1.D u 3) (hFl : FLR A1 wo B1 u) : TKI p wo inp cs w u ir M ty mn nu cd E Q2 Pv A1 la z B1 := by
  obtain ⟨a1, a2, a3, ⟨t1, t2, t3, t4, t5, t6, ⟨t7, t71, t72, t73⟩, ⟨t8, t81⟩, t9, t91⟩, a5, a6, a7, a8, a9, a10, a11, a12, a13, a14, a15⟩ := h
  have hwo := lW_le hw
  have hu' := lU_le hu
  have hT' := lT_le t2
  have W := a1.2.2.1
  have U := a2.2.2.1
  have ni : ¬ (wo ≤ inp ∧ inp ≤ wo + 5) := fun k => by
    have s4 := a1.2.2.2.2.2.2.1
    have : inp = wo ∨ inp = wo + 1 ∨ inp = wo + 2 ∨ inp = wo + 3 ∨ inp = wo + 4 ∨ inp = wo + 5 := by omega
    rcases this with k | k | k | k | k | k
    · rw [k, WS W] at s4; exact absurd s4 (by decide)
    · rw [k, WA_7 W] at s4; exact absurd s4 (by decide)
    · rw [k, WA_8 W] at s4; exact absurd s4 (by decide)
    · rw [k, WA_11 W] at s4; exact absurd s4 (by decide)
    · rw [k, WA_12 W] at s4; exact absurd s4 (by decide)
    · rw [k, WA_14 W] at s4; exact absurd s4 (by decide)
  have nr : ¬ (u ≤ ir ∧ ir ≤ u + 9) := fun k => by
    have s4 := a2.2.2.2.2.2.2.1
    have : ir = u ∨ ir = u + 1 ∨ ir = u + 2 ∨ ir = u + 3 ∨ ir = u + 4 ∨ ir = u + 5 ∨ ir = u + 6 ∨ ir = u + 7 ∨ ir = u + 8 ∨ ir = u + 9 := by omega
    rcases this with k | k | k | k | k | k | k | k | k | k
    · rw [k, US U] at s4; exact absurd s4 (by decide)
    · rw [k, UA_4 U] at s4; exact absurd s4 (by decide)
    · rw [k, UA_5 U] at s4; exact absurd s4 (by decide)
    · rw [k, UA_6 U] at s4; exact absurd s4 (by decide)
    · rw [k, UA_7 U] at s4; exact absurd s4 (by decide)
    · rw [k, UA_9 U] at s4; exact absurd s4 (by decide)
    · rw [k, UA_10 U] at s4; exact absurd s4 (by decide)
    · rw [k, UA_11 U] at s4; exact absurd s4 (by decide)
    · rw [k, UA_12 U] at s4; exact absurd s4 (by decide)
    · rw [k, UA_17 U] at s4; exact absurd s4 (by decide)
  have dA : ∀ a f, ¬ (wo ≤ a ∧ a ≤ wo + 5) → A1.D a f = A.D a f := fun a f k => hA.1 a f k
  have dB : ∀ a f, ¬ (u ≤ a ∧ a ≤ u + 9) → B1.D a f = B.D a f := fun a f k => hB.1 a f k
  have hp : ∀ x, ¬ (wo ≤ p + x ∧ p + x ≤ wo + 5) := fun x => by omega
  have hwT : ∀ x, x ≤ 30 → ¬ (u ≤ w + x ∧ w + x ≤ u + 9) := fun x _ => by omega
  refine ⟨a1.sm hA (by omega), a2.sm hB (fun i => ⟨by omega, by omega, by omega⟩), hW, ⟨t1, t2, by rw [hA.2.1]; exact t3, by rw [hB.2.1]; exact t4, fun c hc => by rw [dA _ _ (by omega)]; exact t5 c hc, fun m hm => by rw [dA _ _ (by omega)]; exact t6 m hm, ⟨fun c hc => by rw [dB _ _ (by omega)]; exact t7 c hc, fun m hm => by rw [dB _ _ (by omega)]; exact t71 m hm, fun e he => by rw [dB _ _ (by omega)]; exact t72 e he, fun e q he hq => by rw [dB _ _ (by omega)]; exact t73 e q he hq⟩, ⟨by rw [dA _ _ (by omega)]; exact t8, fun f hf => ⟨by rw [dA _ _ (by omega)]; exact (t81 f hf).1, fun c m y1 y2 => by rw [dA _ _ (by omega)]; exact (t81 f hf).2 c m y1 y2⟩⟩, ⟨by rw [dB _ _ (by omega)]; exact t9, fun f hf => ⟨by rw [dB _ _ (by omega)]; exact (t91 f hf).1, fun c m y1 y2 => by rw [dB _ _ (by omega)]; exact (t91 f hf).2 c m y1 y2⟩⟩⟩, ⟨fun c hc => by rw [dA _ _ (by omega)]; exact a5.1 c hc, by rw [dA _ _ (by omega)]; exact a5.2.1, fun e he => by rw [dA _ _ (by omega)]; exact a5.2.2 e he⟩, ⟨by rw [dA _ _ (by omega)]; exact a6.1, fun s hs => by rw [dA _ _ (by omega), dA _ _ (by omega), dA _ _ (by omega), dA _ _ (by omega)]; exact a6.2 s hs⟩, ⟨by rw [dB _ _ (by omega)]; exact a7.1, fun s hs => by rw [dB _ _ (by omega), dB _ _ (by omega), dB _ _ (by omega), dB _ _ (by omega)]; exact a7.2 s hs⟩, ?_, by rw [hA.2.1]; exact a9, fun x hx => by rw [dA _ _ (by omega)]; exact a10 x hx, fun x hx => by rw [dA _ _ ni, dB _ _ nr]; exact a11 x hx, e0, e1, e3, hFl⟩
  obtain ⟨l1, l2, l3, l4⟩ := a8
  exact ⟨by rw [hA.2.1]; exact l1, by rw [hA.2.2.2.1]; exact l2, l3, l4⟩
/-- what is due is dropped alike -/
theorem due_all {S : Nat → Nat} {A B : Hp} {Pv : Nat → Nat → Int32} {la z : Nat} (hE : WE E) (hN : 300 ≤ N) (hw : wo ∈ lW) (hu : u ∈ lU) (hI : TKI p wo inp cs w u ir M ty mn nu cd E Q Pv A la z B) (hR : RVB S E Q B u) : ∃ A2 B2 P2, F_World_dropDue N wo A = some ((), A2) ∧ F_MWorld_clears N u B = some ((), B2) ∧ same (DDA wo) A A2 ∧ same (DDB u) B B2 ∧ P2 ≤ Q 5 2 ∧ TKI p wo inp cs w u ir M ty mn nu cd E (upR Q 5 2 P2) Pv A2 la z B2 ∧ RVB S E (upR Q 5 2 P2) B2 u := by
  have hI' := hI
  obtain ⟨a1, a2, ⟨w1, w2, w3, w4, w5, w6, w7⟩, -, -, -, -, -, -, -, -, a12, a13, a14, a15⟩ := hI
  have hwo := lW_le hw
  have hu' := lU_le hu
  obtain ⟨A2, B2, P2, r1, r2, r3, r4, r5, r6, r7, r8⟩ := due_jo (N := N) (wo := wo) (u := u) (E := sE E (Sof S Q)) (P := Q 5 2) hN hE w6.2.2.1 (Q 5 2) 0 0 N N A B (by omega) (by omega) (by have := w6.2.2.1; omega) (by have := w6.2.2.1; omega) a1.2.2.1 a2.2.2.1 w6.1 w6.2.1 a12 (fun k _ hk => by
    obtain ⟨m0, m1, m2, m3⟩ := w6.2.2.2 k hk
    exact ⟨m0, m1, m2, fun e q y1 y2 y3 => ⟨m3 e q y1 y2 y3, fun y4 => SVx_k.mpr (hR.2.1 k hk e q y1 y2 y3 y4)⟩, hR.2.2 k hk⟩)
  have dA : ∀ a f, ¬ DDA wo a f → A2.D a f = A.D a f := fun a f y => r3.1 a f y
  have dB : ∀ a f, ¬ DDB u a f → B2.D a f = B.D a f := fun a f y => r4.1 a f y
  unfold DDA at dA
  unfold DDB at dB
  have kn : ∀ y, KN S Q y → KN S (upR Q 5 2 P2) y := fun y h => h.mono (fun q _ => by rw [upR_o (by decide)]; exact Nat.le_refl _)
  refine ⟨A2, B2, P2, r1, r2, r3, r4, r5, hI'.fr hw hu (r3.mono fun a f y => by unfold DDA at y; omega) (r4.mono fun a f y => by unfold DDB at y; omega) ?_ (by rw [dA _ _ (by omega), dB _ _ (by omega)]; exact a12) (by rw [dA _ _ (by omega), dB _ _ (by omega)]; exact a13) (by rw [dA _ _ (by omega), dB _ _ (by omega)]; exact a14) ?_, ?_⟩
  · unfold WRL PPL PPB
    rw [upR_o (show (0 : Nat) ≠ 5 by decide), upR_o (show (1 : Nat) ≠ 5 by decide), upR_o (show (2 : Nat) ≠ 5 by decide), upR_n (show (0 : Nat) ≠ 2 by decide), upR_n (show (1 : Nat) ≠ 2 by decide), upR_n (show (3 : Nat) ≠ 2 by decide), upR_s]
    refine ⟨fun q hq => by rw [dA _ _ (by omega), dA _ _ (by omega)]; exact w1 q hq, fun q hq => by rw [dB _ _ (by omega), dB _ _ (by omega), dB _ _ (by omega)]; exact w2 q hq, fun q c m y1 y2 y3 y4 => by rw [dA _ _ (by omega), dB _ _ (by omega)]; exact w3 q c m y1 y2 y3 y4, ⟨by rw [dA _ _ (by omega)]; exact w4.1, w4.2⟩, ⟨by rw [dA _ _ (by omega)]; exact w5.1, w5.2⟩, ⟨r6, r7, by have := w6.2.2.1; omega, fun k hk => ?_⟩, by rw [dA _ _ (by omega)]; exact w7.1, by rw [dB _ _ (by omega)]; exact w7.2.1, w7.2.2.1, fun k hk => by rw [dA _ _ (by omega), dB _ _ (by omega)]; exact w7.2.2.2 k hk⟩
    obtain ⟨m0, m1, m2, m3, -⟩ := r8 k hk
    exact ⟨m0, m1, m2, fun e q y1 y2 y3 => (m3 e q y1 y2 y3).1⟩
  · unfold FLR
    rw [dA wo 2 (by omega), dA wo 4 (by omega), dA wo 5 (by omega), dA wo 6 (by omega), dB u 2 (by omega), dB u 13 (by omega), dB u 14 (by omega), dB u 15 (by omega)]
    exact a15
  · refine ⟨fun q c m y1 y2 y3 y4 y5 => ?_, fun k hk e q y1 y2 y3 y4 => ?_, fun k hk => by rw [upR_s] at hk; exact (r8 k hk).2.2.2.2⟩
    · rw [upR_o (by decide)] at y2 y3
      rw [dB _ _ (by omega)]
      exact kn _ (hR.1 q c m y1 y2 y3 y4 y5)
    · rw [upR_s] at hk
      exact kn _ (SVx_k.mp (((r8 k hk).2.2.2.1 e q y1 y2 y3).2 y4))
end Par
