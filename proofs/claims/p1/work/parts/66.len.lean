/-- a contract without new cells keeps the heap's length -/
theorem ab_M_len {y : ab_Y} {R : Room} {av : List Value} {h : List ab_E} {Po : Outcome → List ab_E → Prop} (h0 : R.cells = 0) (k : ab_M y R av h Po) : ab_M y R av h (fun o h1 => Po o h1 ∧ h1.length = h.length) := by
  intro l G hl p e ha hc hk s m args below hf happ hP hK
  obtain ⟨n, o, h1, h2, h3, ⟨⟨o', h', q1, q2, q3, q4, q5, q6⟩, q7, L, q8, q9⟩⟩ := k l G hl p e ha hc hk s m args below hf happ hP hK
  refine ⟨n, o, h1, h2, h3, ⟨⟨o', h', q1, ⟨q2, ?_⟩, q3, q4, q5, q6⟩, q7, L, q8, q9⟩⟩
  have z1 : (stepsAlone p.tables e n s).heap.size ≤ s.heap.size + R.cells := q8.2.2.1
  have z2 : s.heap.size = G.1 + h.length := hP.2.1
  rw [h0] at z1
  omega
theorem ab_A_len {y : ab_Y} {R : Room} {av : List Value} {h : List ab_E} {v : Option Value} {Q : List ab_E → Prop} (h0 : R.cells = 0) (k : ab_M y R av h (ab_A v Q)) : ab_M y R av h (ab_A v (fun h1 => Q h1 ∧ h1.length = h.length)) := by
  have q := ab_M_len h0 k
  have e : (fun o h1 => ab_A v Q o h1 ∧ h1.length = h.length) = ab_A v (fun h1 => Q h1 ∧ h1.length = h.length) := by
    funext o h1
    exact propext ⟨fun z => ⟨z.1.1, z.1.2, z.2⟩, fun z => ⟨⟨z.1, z.2.1⟩, z.2.2⟩⟩
  rw [e] at q
  exact q
