/-! ===== a group is run alike ===== -/
section Par
variable {N p wo inp cs w u ir M K0 : Nat} {s pl : Int32} {ty mn nu cd : Nat → Int32} {E Q : Nat → Nat → Nat} {V : Nat → Nat → Int32} {nL lc : Nat} {lk : Nat → Nat} {hd : Nat → Int32}
theorem WRL.fr {A B A1 B1 : Hp} (h : WRL A wo B u E Q) (dA : ∀ a f, (a = wo ∧ f ≠ 3) ∨ (wo + 1 ≤ a ∧ a ≤ wo + 5) → A1.D a f = A.D a f) (dB : ∀ a f, (a = u ∧ f ≠ 3) ∨ (u + 1 ≤ a ∧ a ≤ u + 9) → B1.D a f = B.D a f) : WRL A1 wo B1 u E Q := by
  obtain ⟨w1, w2, w3, w4, w5, w6, w7⟩ := h
  refine ⟨fun q hq => by rw [dA _ _ (by omega), dA _ _ (by omega)]; exact w1 q hq, fun q hq => by rw [dB _ _ (by omega), dB _ _ (by omega), dB _ _ (by omega)]; exact w2 q hq, fun q c m y1 y2 y3 y4 => by rw [dA _ _ (by omega), dB _ _ (by omega)]; exact w3 q c m y1 y2 y3 y4, ⟨by rw [dA _ _ (by omega)]; exact w4.1, w4.2⟩, ⟨by rw [dA _ _ (by omega)]; exact w5.1, w5.2⟩, ⟨by rw [dA _ _ (by omega)]; exact w6.1, by rw [dB _ _ (by omega)]; exact w6.2.1, w6.2.2.1, fun k hk => ?_⟩, by rw [dA _ _ (by omega)]; exact w7.1, by rw [dB _ _ (by omega)]; exact w7.2.1, w7.2.2.1, fun k hk => by rw [dA _ _ (by omega), dB _ _ (by omega)]; exact w7.2.2.2 k hk⟩
  rw [dA _ _ (by omega), dA _ _ (by omega), dA _ _ (by omega), dB _ _ (by omega), dB _ _ (by omega), dB _ _ (by omega)]
  obtain ⟨m0, m1, m2, m3⟩ := w6.2.2.2 k hk
  exact ⟨m0, m1, m2, fun e q y1 y2 y3 => by rw [dA _ _ (by omega), dB _ _ (by omega)]; exact m3 e q y1 y2 y3⟩
theorem TKI.z {A B A1 B1 : Hp} {Pv : Nat → Nat → Int32} {la z : Nat} (h : TKI p wo inp cs w u ir M ty mn nu cd E Q Pv A la z B) (hw : wo ∈ lW) (hu : u ∈ lU) (hA : same (fun a _ => a = 117) A A1) (hB : same (fun a _ => a = 611) B B1) : TKI p wo inp cs w u ir M ty mn nu cd E Q Pv A1 la z B1 := by
  obtain ⟨a1, a2, a3, ⟨t1, t2, t3, t4, t5, t6, ⟨t7, t71, t72, t73⟩, ⟨t8, t81⟩, t9, t91⟩, a5, a6, a7, a8, a9, a10, a11, a12, a13, a14, a15⟩ := h
  have hwo := lW_le hw
  have hu' := lU_le hu
  have hT' := lT_le t2
  have ni := a1.i.1
  have nr : ir ≠ 611 := fun k => by
    have s4 := a2.2.2.2.2.2.2.1
    rw [k, rS_611 a2.1] at s4
    exact absurd s4 (by decide)
  have dA : ∀ a f, a ≠ 117 → A1.D a f = A.D a f := fun a f k => hA.1 a f k
  have dB : ∀ a f, a ≠ 611 → B1.D a f = B.D a f := fun a f k => hB.1 a f k
  refine ⟨a1.sm hA (by omega), a2.sm hB (fun i => ⟨by omega, by omega, by omega⟩), a3.fr (fun a f k => dA a f (by omega)) (fun a f k => dB a f (by omega)), ⟨t1, t2, by rw [hA.2.1]; exact t3, by rw [hB.2.1]; exact t4, fun c hc => by rw [dA _ _ (by omega)]; exact t5 c hc, fun m hm => by rw [dA _ _ (by omega)]; exact t6 m hm, ⟨fun c hc => by rw [dB _ _ (by omega)]; exact t7 c hc, fun m hm => by rw [dB _ _ (by omega)]; exact t71 m hm, fun e he => by rw [dB _ _ (by omega)]; exact t72 e he, fun e q he hq => by rw [dB _ _ (by omega)]; exact t73 e q he hq⟩, ⟨by rw [dA _ _ (by omega)]; exact t8, fun f hf => ⟨by rw [dA _ _ (by omega)]; exact (t81 f hf).1, fun c m y1 y2 => by rw [dA _ _ (by omega)]; exact (t81 f hf).2 c m y1 y2⟩⟩, ⟨by rw [dB _ _ (by omega)]; exact t9, fun f hf => ⟨by rw [dB _ _ (by omega)]; exact (t91 f hf).1, fun c m y1 y2 => by rw [dB _ _ (by omega)]; exact (t91 f hf).2 c m y1 y2⟩⟩⟩, ⟨fun c hc => by rw [dA _ _ (by omega)]; exact a5.1 c hc, by rw [dA _ _ (by omega)]; exact a5.2.1, fun e he => by rw [dA _ _ (by omega)]; exact a5.2.2 e he⟩, ⟨by rw [dA _ _ (by omega)]; exact a6.1, fun s hs => by rw [dA _ _ (by omega), dA _ _ (by omega), dA _ _ (by omega), dA _ _ (by omega)]; exact a6.2 s hs⟩, ⟨by rw [dB _ _ (by omega)]; exact a7.1, fun s hs => by rw [dB _ _ (by omega), dB _ _ (by omega), dB _ _ (by omega), dB _ _ (by omega)]; exact a7.2 s hs⟩, ?_, by rw [hA.2.1]; exact a9, fun x hx => by rw [dA _ _ (by omega)]; exact a10 x hx, fun x hx => by rw [dA _ _ ni, dB _ _ nr]; exact a11 x hx, ?_, ?_, ?_, ?_⟩
  · obtain ⟨l1, l2, l3, l4⟩ := a8
    exact ⟨by rw [hA.2.1]; exact l1, by rw [hA.2.2.2.1]; exact l2, l3, l4⟩
  · rw [dA _ _ (by omega), dB _ _ (by omega)]; exact a12
  · rw [dA _ _ (by omega), dB _ _ (by omega)]; exact a13
  · rw [dA _ _ (by omega), dB _ _ (by omega)]; exact a14
  · unfold FLR
    rw [dA wo 2 (by omega), dA wo 4 (by omega), dA wo 5 (by omega), dA wo 6 (by omega), dB u 2 (by omega), dB u 13 (by omega), dB u 14 (by omega), dB u 15 (by omega)]
    exact a15
end Par
