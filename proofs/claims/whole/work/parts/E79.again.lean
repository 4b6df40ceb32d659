/-! ===== class's worlds that hold the same; ticks that can be run again ===== -/
def cwF (f : Nat) : Prop := f < 7 ∨ f = 9 ∨ f = 10 ∨ f = 13 ∨ f = 15
/-- two worlds of the class hold the same -/
def CEQ (A : Hp) (wo : Nat) (A1 : Hp) (w1 : Nat) : Prop :=
  (∀ f, cwF f → A.D wo f = A1.D w1 f) ∧ (∀ x, x < 256 → A.D (wo + 1) x = A1.D (w1 + 1) x ∧ A.D (wo + 2) x = A1.D (w1 + 2) x) ∧
  (∀ top wd, A.D wo 9 = nI top → A.D wo 10 = nI wd → top ≤ 256 → wd ≤ 48 → ∀ x, x < top * wd → A.D (wo + 3) x = A1.D (w1 + 3) x) ∧
  (∀ P, A.D wo 13 = nI P → P ≤ 256 → ∀ x, x < 7 * P → A.D (wo + 4) x = A1.D (w1 + 4) x) ∧
  (∀ s, A.D wo 15 = nI s → s ≤ 32 → ∀ x, x < s → A.D (wo + 5) x = A1.D (w1 + 5) x)
theorem CEQ.rf {A : Hp} {wo : Nat} : CEQ A wo A wo := ⟨fun _ _ => rfl, fun _ _ => ⟨rfl, rfl⟩, fun _ _ _ _ _ _ _ _ => rfl, fun _ _ _ _ _ => rfl, fun _ _ _ _ _ => rfl⟩
theorem CEQ.symm {A A1 : Hp} {wo w1 : Nat} (h : CEQ A wo A1 w1) : CEQ A1 w1 A wo := by
  obtain ⟨h1, h2, h3, h4, h5⟩ := h
  exact ⟨fun f y => (h1 f y).symm, fun x y => ⟨(h2 x y).1.symm, (h2 x y).2.symm⟩, fun t d y1 y2 y3 y4 x y => (h3 t d (by rw [h1 9 (by unfold cwF; omega)]; exact y1) (by rw [h1 10 (by unfold cwF; omega)]; exact y2) y3 y4 x y).symm, fun P y1 y2 x y => (h4 P (by rw [h1 13 (by unfold cwF; omega)]; exact y1) y2 x y).symm, fun s y1 y2 x y => (h5 s (by rw [h1 15 (by unfold cwF; omega)]; exact y1) y2 x y).symm⟩
theorem CEQ.tr {A A1 A2 : Hp} {wo w1 w2 : Nat} (h : CEQ A wo A1 w1) (k : CEQ A1 w1 A2 w2) : CEQ A wo A2 w2 := by
  obtain ⟨h1, h2, h3, h4, h5⟩ := h
  obtain ⟨k1, k2, k3, k4, k5⟩ := k
  exact ⟨fun f y => (h1 f y).trans (k1 f y), fun x y => ⟨(h2 x y).1.trans (k2 x y).1, (h2 x y).2.trans (k2 x y).2⟩, fun t d y1 y2 y3 y4 x y => (h3 t d y1 y2 y3 y4 x y).trans (k3 t d (by rw [← h1 9 (by unfold cwF; omega)]; exact y1) (by rw [← h1 10 (by unfold cwF; omega)]; exact y2) y3 y4 x y), fun P y1 y2 x y => (h4 P y1 y2 x y).trans (k4 P (by rw [← h1 13 (by unfold cwF; omega)]; exact y1) y2 x y), fun s y1 y2 x y => (h5 s y1 y2 x y).trans (k5 s (by rw [← h1 15 (by unfold cwF; omega)]; exact y1) y2 x y)⟩
theorem CEQ.fr {A A1 : Hp} {wo : Nat} (h : ∀ a f, wo ≤ a → a ≤ wo + 5 → A1.D a f = A.D a f) : CEQ A1 wo A wo :=
  ⟨fun f _ => h _ f (by omega) (by omega), fun x _ => ⟨h _ x (by omega) (by omega), h _ x (by omega) (by omega)⟩, fun _ _ _ _ _ _ x _ => h _ x (by omega) (by omega), fun _ _ _ x _ => h _ x (by omega) (by omega), fun _ _ _ x _ => h _ x (by omega) (by omega)⟩
section Par
variable {N p wo inp cs w u ir M K0 : Nat} {s pl : Int32} {ty mn nu cd : Nat → Int32} {E Q : Nat → Nat → Nat} {V : Nat → Nat → Int32} {nL lc : Nat} {lk : Nat → Nat} {hd : Nat → Int32}
theorem CEQ.wpr {A A1 B : Hp} {w1 : Nat} (h : CEQ A wo A1 w1) (hE : WE E) (hW : WPR A wo B u E Q) : WPR A1 w1 B u E Q := by
  obtain ⟨h1, h2, h3, h4, h5⟩ := h
  obtain ⟨⟨x1, x2, x3, x4, x5, x6, x7⟩, a0, a1, a3, a15⟩ := hW
  have e : ∀ f, cwF f → A1.D w1 f = A.D wo f := fun f y => (h1 f y).symm
  have r6 := h3 (Q 5 1) (Q 5 0) x5.1 x4.1 x5.2.1 x4.2.1
  have r7 := h4 (Q 5 2) x6.1 x6.2.2.1
  have r8 := h5 (Q 5 3) x7.1 x7.2.2.1
  refine ⟨⟨fun q hq => by rw [← (h2 q hq).1, ← (h2 q hq).2]; exact x1 q hq, x2, fun q c m y1 y2 y3 y4 => ?_, ⟨by rw [e 10 (by unfold cwF; omega)]; exact x4.1, x4.2⟩, ⟨by rw [e 9 (by unfold cwF; omega)]; exact x5.1, x5.2⟩, ⟨by rw [e 13 (by unfold cwF; omega)]; exact x6.1, x6.2.1, x6.2.2.1, fun k hk => ?_⟩, by rw [e 15 (by unfold cwF; omega)]; exact x7.1, x7.2.1, x7.2.2.1, fun k hk => by rw [← r8 k hk]; exact x7.2.2.2 k hk⟩, by rw [e 0 (by unfold cwF; omega)]; exact a0, by rw [e 1 (by unfold cwF; omega)]; exact a1, by rw [e 3 (by unfold cwF; omega)]; exact a3, ?_⟩
  · have hm := x4.2.2 c m y4
    have hq : q < Q 5 1 := Decidable.byContradiction fun z => x5.2.2 q (by omega) y1 y2
    have : q * Q 5 0 + Q 5 0 ≤ Q 5 1 * Q 5 0 := by
      have := Nat.mul_le_mul_right (Q 5 0) (show q + 1 ≤ Q 5 1 by omega)
      rw [Nat.add_mul, Nat.one_mul] at this
      exact this
    rw [← r6 _ (by omega)]
    exact x3 q c m y1 y2 y3 y4
  · obtain ⟨m0, m1, m2, m3⟩ := x6.2.2.2 k hk
    rw [← r7 _ (by omega), ← r7 _ (by omega), ← r7 _ (by omega)]
    refine ⟨m0, m1, m2, fun e q y1 y2 y3 => ?_⟩
    have e4 := (hE.2.2.2.2.2.2.2.1 e y2).1
    rw [← r7 _ (by omega)]
    exact m3 e q y1 y2 y3
  · unfold FLR
    rw [e 2 (by unfold cwF; omega), e 4 (by unfold cwF; omega), e 5 (by unfold cwF; omega), e 6 (by unfold cwF; omega)]
    exact a15
/-- a copy holds the same -/
theorem cp_eq {A B : Hp} {w2 : Nat} (h : WPR A w2 B u E Q) (hw : wo ∈ lW) (hw2 : w2 ∈ lW) (hn : wo ≠ w2) (hG : Gr A) : ∃ A2, F_World_copyFrom N wo w2 A = some ((), A2) ∧ same (cW wo) A A2 ∧ CEQ A2 wo A w2 := by
  obtain ⟨⟨x1, x2, x3, x4, x5, x6, x7⟩, -⟩ := h
  obtain ⟨A2, r1, r2, r3, r4, r5, r6, r7, r8⟩ := cp_A (N := N) hw hw2 hn (gr_W hG wo hw) (gr_W hG w2 hw2) x5.1 x5.2.1 x4.1 x4.2.1 x6.1 x6.2.2.1 x7.1 x7.2.2.1
  have b5 := x5.2.1
  have b4 := x4.2.1
  have b6 := x6.2.2.1
  have b7 := x7.2.2.1
  refine ⟨A2, r1, r2, fun f y => r3 f y, fun x y => ⟨r4 x y, r5 x y⟩, fun t d y1 y2 y3 y4 x y => ?_, fun P y1 y2 x y => ?_, fun s y1 y2 x y => ?_⟩
  · rw [r3 9 (by omega), x5.1] at y1
    rw [r3 10 (by omega), x4.1] at y2
    have e1 := (nI_eq (by omega) (by omega)).mp y1
    have e2 := (nI_eq (by omega) (by omega)).mp y2
    rw [← e1, ← e2] at y
    exact r6 x y
  · rw [r3 13 (by omega), x6.1] at y1
    have e1 := (nI_eq (by omega) (by omega)).mp y1
    rw [← e1] at y
    exact r7 x y
  · rw [r3 15 (by omega), x7.1] at y1
    have e1 := (nI_eq (by omega) (by omega)).mp y1
    rw [← e1] at y
    exact r8 x y
/-- world wa ticks to world wb with the inputs I -/
def LNK (N p cs w M : Nat) (ty mn nu cd : Nat → Int32) (E : Nat → Nat → Nat) (Nm : Nat → Nat → List Nat) (Pv : Nat → Nat → Int32) (A : Hp) (wa wb : Nat) (I : Nat → Int32) : Prop :=
  ∃ (A1 A4 B0 : Hp) (w1 inp la z : Nat), TXF A1 p B0 w cs M ty mn nu cd E Nm Pv ∧ w1 ∈ lW ∧ Gr A1 ∧ LST A1 la z ∧ A1.sh[inp]? = some (100, 4) ∧ (∀ x, x < 4 → A1.D inp x = I x) ∧ F_Ticker_runTick N 116 p w1 inp A1 = some ((), A4) ∧ CEQ A wa A1 w1 ∧ CEQ A4 w1 A wb
theorem LNK.fr {A A2 : Hp} {wa wb : Nat} {I : Nat → Int32} {Nm : Nat → Nat → List Nat} {Pv : Nat → Nat → Int32} (h : LNK N p cs w M ty mn nu cd E Nm Pv A wa wb I) {wa2 wb2 : Nat} (ha : CEQ A2 wa2 A wa) (hb : CEQ A wb A2 wb2) : LNK N p cs w M ty mn nu cd E Nm Pv A2 wa2 wb2 I := by
  obtain ⟨A1, A4, B0, w1, inp, la, z, h1, h2, h3, h4, h5, h6, h7, h8, h9⟩ := h
  exact ⟨A1, A4, B0, w1, inp, la, z, h1, h2, h3, h4, h5, h6, h7, ha.tr h8, h9.tr hb⟩
theorem TXF.mix {A A1 B B0 : Hp} {Nm : Nat → Nat → List Nat} {Pv : Nat → Nat → Int32} (h : TXF A1 p B0 w cs M ty mn nu cd E Nm Pv) (k : TXF A p B w cs M ty mn nu cd E Nm Pv) : TXF A1 p B w cs M ty mn nu cd E Nm Pv := by
  obtain ⟨h1, h2, hp, hw, hc, ht, cd1, g27⟩ := h
  obtain ⟨k1, k2, kp, kw, kc, kt, kd1, k27⟩ := k
  exact ⟨h1, k2, hp, hw, hc, kt, cd1, k27⟩
/-- THE REFERENCE RUNS A TICK AGAIN -/
theorem lnk_run {S : Nat → Nat} {nb c wa wb : Nat} {I : Nat → Int32} {Nm : Nat → Nat → List Nat} {Pv : Nat → Nat → Int32} {A B : Hp} (h : LNK N p cs w M ty mn nu cd E Nm Pv A wa wb I) (hT : TXF A p B w cs M ty mn nu cd E Nm Pv) (hQ : TXQ M cs ty mn nu cd E Pv) (hM : M + 2 ≤ N) (hN : 2000000 ≤ N) (hu : u ∈ lU) (hGB : Gr B) (hW : WPR A wa B u E Q) (hr : B.sh[ir]? = some (100, 4)) (hin : ∀ x, x < 4 → B.D ir x = I x) (hb : BNS S nb) (hc : nb + c + 20 < 8388608) (hR : RVB S E Q B u) (hG : GNV S c Q) : ∃ B4 Q4, F_MRunner_tick N 611 w u ir B = some ((), B4) ∧ WPR A wb B4 u E Q4 ∧ RVB S E Q4 B4 u ∧ GNV S (c + 16) Q4 ∧ smT (TGB u) B B4 ∧ B4.D u 0 = B.D u 0 + 1 := by
  obtain ⟨A1, A4, B0, w1, inp, la, z, h1, h2, h3, h4, h5, h6, h7, h8, h9⟩ := h
  have W1 := h8.wpr hQ.1 hW
  obtain ⟨A4', B4, Q4, la4, z4, r1, r2, r3, r4, r5, r6, r7, r8⟩ := tick_wp (N := N) (h1.mix hT) hQ hM hN h2 hu h3 hGB W1 h4 h5 hr (fun x hx => by rw [h6 x hx, hin x hx]) hb hc hR hG
  rw [h7] at r1
  have e : A4 = A4' := congrArg Prod.snd (Option.some.inj r1)
  subst e
  exact ⟨B4, Q4, r2, h9.wpr hQ.1 r3, r4, r5, smT.lk.tr r7.smT, by rw [← r3.2.1, r8, W1.2.1]⟩
/-- the class runs a tick, which can be run again -/
theorem lnk_new {S : Nat → Nat} {nb c la z wb : Nat} {I : Nat → Int32} {Nm : Nat → Nat → List Nat} {Pv : Nat → Nat → Int32} {A B : Hp} (hT : TXF A p B w cs M ty mn nu cd E Nm Pv) (hQ : TXQ M cs ty mn nu cd E Pv) (hM : M + 2 ≤ N) (hN : 2000000 ≤ N) (hw : wo ∈ lW) (hwb : wb ∈ lW) (hne : wb ≠ wo) (hu : u ∈ lU) (hGA : Gr A) (hGB : Gr B) (hW : WPR A wo B u E Q) (hC : CEQ A wb A wo) (hL : LST A la z) (hi : A.sh[inp]? = some (100, 4)) (hr : B.sh[ir]? = some (100, 4)) (hI : ∀ x, x < 4 → A.D inp x = I x) (hin : ∀ x, x < 4 → B.D ir x = I x) (hb : BNS S nb) (hc : nb + c + 20 < 8388608) (hR : RVB S E Q B u) (hG : GNV S c Q) : ∃ A4 B4 Q4 la4 z4, F_Ticker_runTick N 116 p wo inp A = some ((), A4) ∧ F_MRunner_tick N 611 w u ir B = some ((), B4) ∧ WPR A4 wo B4 u E Q4 ∧ RVB S E Q4 B4 u ∧ GNV S (c + 16) Q4 ∧ exT (TGA wo) A la z A4 la4 z4 ∧ smT (TGB u) B B4 ∧ A4.D wo 0 = A.D wo 0 + 1 ∧ LNK N p cs w M ty mn nu cd E Nm Pv A4 wb wo I := by
  obtain ⟨A4, B4, Q4, la4, z4, r1, r2, r3, r4, r5, r6, r7, r8⟩ := tick_wp (N := N) hT hQ hM hN hw hu hGA hGB hW hL hi hr (fun x hx => by rw [hI x hx, hin x hx]) hb hc hR hG
  have hx : exT (TGA wo) A la z A4 la4 z4 := (exT.lk hL).tr r6.exT
  have dj := lW_dj hw hwb (fun y => hne y.symm)
  have b1 := lW_le hwb
  have b2 := lW_le hw
  have hlen := hGA.len
  have hla := hL.2.2.1
  have eb : CEQ A4 wb A wb := CEQ.fr fun a f y1 y2 => hx.2.2.1 a f (by omega) (fun y => by unfold TGA TFA at y; omega) (by omega)
  exact ⟨A4, B4, Q4, la4, z4, r1, r2, r3, r4, r5, hx, smT.lk.tr r7.smT, r8, A, A4, B, wo, inp, la, z, hT, hw, hGA, hL, hi, hI, r1, eb.tr hC, CEQ.rf⟩
end Par
