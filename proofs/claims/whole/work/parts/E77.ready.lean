/-! ===== a text and a pair of worlds, ready for a tick ===== -/
theorem rf0_lk : rf0.all (fun q => decide (¬ ((q.1 = 116 ∧ (q.2.1 = 1 ∨ q.2.1 = 2)) ∨ (q.1 = 117 ∧ (q.2.1 = 2 ∨ q.2.1 = 3 ∨ q.2.1 = 4)) ∨ (q.1 = 611 ∧ (q.2.1 = 0 ∨ q.2.1 = 1 ∨ q.2.1 = 2))))) = true := by decide +kernel
theorem Gr.sP1 {H : Hp} (h : Gr H) {a f : Nat} {v : Value} (hs : (a = 116 ∧ (f = 1 ∨ f = 2)) ∨ (a = 117 ∧ (f = 2 ∨ f = 3 ∨ f = 4)) ∨ (a = 611 ∧ (f = 0 ∨ f = 1 ∨ f = 2))) : Gr (H.sP a f v) := by
  refine ⟨h.1, fun q hq => ?_⟩
  have := of_decide_eq_true (List.all_eq_true.mp rf0_lk q hq)
  rw [sP_o (by omega)]
  exact h.2 q hq
theorem Gr.lkA {A : Hp} (h : Gr A) {p wo inp : Nat} : Gr (lkA p wo inp A) :=
  ((((h.sP1 (by omega)).sP1 (by omega)).sP1 (by omega)).sP1 (by omega)).sP1 (by omega)
theorem Gr.lkB {B : Hp} (h : Gr B) {w u ir : Nat} : Gr (lkB w u ir B) :=
  ((h.sP1 (by omega)).sP1 (by omega)).sP1 (by omega)
/-- both sides hold the text -/
def TXF (A : Hp) (p : Nat) (B : Hp) (w cs M : Nat) (ty mn nu cd : Nat → Int32) (E : Nat → Nat → Nat) (Nm : Nat → Nat → List Nat) (Pv : Nat → Nat → Int32) : Prop :=
  ENA A p E Nm Pv ∧ ENB B w E Nm Pv ∧ (p = 133 ∨ p = 325) ∧ w ∈ lT ∧ (A.D p 17 = nI cs ∧ cs ≤ 12000) ∧ (M ≤ 6002 ∧ ∀ i, i < M → B.D (w + 2) i = ty i ∧ B.D (w + 7) i = mn i ∧ B.D (w + 5) i = nu i) ∧ (∀ x, x < cs → A.D (p + 191) x = cd x) ∧ ∀ s, s < E 17 0 → B.D (w + 27) s = nI (E 25 s)
/-- what holds of the text alone -/
def TXQ (M cs : Nat) (ty mn nu cd : Nat → Int32) (E : Nat → Nat → Nat) (Pv : Nat → Nat → Int32) : Prop := WE E ∧ GM E ∧ PVN E Pv ∧ SYR M cs ty mn nu cd E
theorem GP.pvn {E : Nat → Nat → Nat} {Pv : Nat → Nat → Int32} (h : GP E Pv) : PVN E Pv := fun f c m y1 y2 y3 y4 => (h f c m y1 y2 y3).2.2 y4
theorem RDok.txf {p w T : Nat} {L : List (Nat × Nat × Int32 × Bool × Nat)} {g : Nat → Nat} {A B : Hp} (h : RDok p w T L g A B) (hw : w ∈ lT) (hL : L.length ≤ 6002) (hL1 : 1 ≤ L.length) : ∃ E Nm Pv cs, TXF A p B w cs L.length (tyF L) (B.D (w + 7)) (B.D (w + 5)) (A.D (p + 191)) E Nm Pv ∧ TXQ L.length cs (tyF L) (B.D (w + 7)) (B.D (w + 5)) (A.D (p + 191)) E Pv ∧ WU p E ∧ GP E Pv ∧ NMQ E Nm := by
  obtain ⟨E, Nm, Pv, cs, h1, h2, h3, h4, h5, h6, h7, h8, h9, h10, h11, h12, h13, h14, h15⟩ := h
  refine ⟨E, Nm, Pv, cs, ⟨h1, h2, h12.2.1, hw, ⟨h7, h8⟩, ⟨hL, fun i hi => ⟨(h4 i hi).1, rfl, rfl⟩⟩, fun x _ => rfl, h15⟩, ⟨h12.1, h13.1.gm, h11.pvn, fun sy hsy => ?_⟩, h12, h11, h13.2⟩
  obtain ⟨Es, e, ce, lk, hd, x1, x2, ⟨x3, x4, x5⟩, x6, x7, x8, x9, x10, x11⟩ := h14 sy hsy
  have e18 := x1.2.2.2.2.2.2.2.2.2.2.1 sy (by omega)
  refine ⟨Es, e, ce, lk, hd, x1, x2.1, x3, fun c y => ?_, by omega, x9, x10, x11 _ _ _ ⟨fun x _ _ => rfl, fun t _ _ => ⟨rfl, rfl⟩⟩⟩
  rw [x3, show sy + 1 - 1 = sy by omega] at y ⊢
  rw [← e18.1, ← e18.2.2.2.1]
  rw [← e18.2.2.1] at y
  exact ⟨x5 c y, fun z => x4 c z y⟩
section Par
variable {N p wo inp cs w u ir M K0 : Nat} {s pl : Int32} {ty mn nu cd : Nat → Int32} {E Q : Nat → Nat → Nat} {V : Nat → Nat → Int32} {nL lc : Nat} {lk : Nat → Nat} {hd : Nat → Int32}
theorem TKI.mk {A B : Hp} {Nm : Nat → Nat → List Nat} {Pv : Nat → Nat → Int32} {la z : Nat} (hT : TXF A p B w cs M ty mn nu cd E Nm Pv) (hE : WE E) (hw : wo ∈ lW) (hu : u ∈ lU) (hGA : Gr A) (hGB : Gr B) (hW : WPR A wo B u E Q) (hL : LST A la z) (hi : A.sh[inp]? = some (100, 4)) (hr : B.sh[ir]? = some (100, 4)) (hin : ∀ x, x < 4 → A.D inp x = B.D ir x) : TKI p wo inp cs w u ir M ty mn nu cd E Q Pv (lkA p wo inp A) la z (lkB w u ir B) := by
  obtain ⟨⟨n1, ⟨n2, n21, n22, n23⟩, ⟨n3, n31, n32, n33⟩, n4, ⟨n5, n51⟩, n6⟩, ⟨m1, ⟨m2, m21, m22, m23⟩, ⟨m3, m31, m32, m33⟩, m4, m5, m51⟩, hp, hwT, ⟨c1, c2⟩, ⟨t1, t2⟩, cd1, g27⟩ := hT
  have e8 := hE.2.2.2.2.2.1
  have GA1 := hGA.lkA (p := p) (wo := wo) (inp := inp)
  have GB1 := hGB.lkB (w := w) (u := u) (ir := ir)
  refine ⟨⟨GA1, gr_P GA1 hp, gr_W GA1 wo hw, rfl, rfl, rfl, hi, c1, c2⟩, ⟨GB1, gr_T GB1 w hwT, gr_U GB1 u hu, rfl, rfl, rfl, hr, t1, t2⟩, hW.1, ⟨hp, hwT, rfl, rfl, n21, fun m hm => (n22 m hm).2, ⟨m21, fun m hm => (m22 m hm).2, m31, fun e q y1 y2 => (m32 e q y1 y2).2⟩, n4, m4⟩, ⟨n21, ⟨E 9 0, n3, Nat.le_refl _, e8⟩, n31⟩, ⟨n5, fun s hs => ?_⟩, ⟨m5, fun s hs => ?_⟩, ⟨hL.1, hL.2⟩, rfl, cd1, hin, hW.2.1, hW.2.2.1, hW.2.2.2.1, hW.2.2.2.2⟩
  · obtain ⟨k1, k2, k3, k4, k5, k6, k7⟩ := n51 s hs
    exact ⟨k2, k3, k6, k7⟩
  · obtain ⟨k1, k2, k3, k4, k5, k6⟩ := m51 s hs
    exact ⟨k2, k3, k6, g27 s hs⟩
theorem TKI.wp {A B : Hp} {Pv : Nat → Nat → Int32} {la z : Nat} (h : TKI p wo inp cs w u ir M ty mn nu cd E Q Pv A la z B) : WPR A wo B u E Q := by
  obtain ⟨a1, a2, a3, a4, a5, a6, a7, a8, a9, a10, a11, a12, a13, a14, a15⟩ := h
  exact ⟨a3, a12, a13, a14, a15⟩
/-- A TICK FROM A PAIR OF WORLDS -/
theorem tick_wp {S : Nat → Nat} {nb c la z : Nat} {Nm : Nat → Nat → List Nat} {Pv : Nat → Nat → Int32} {A B : Hp} (hT : TXF A p B w cs M ty mn nu cd E Nm Pv) (hQ : TXQ M cs ty mn nu cd E Pv) (hM : M + 2 ≤ N) (hN : 2000000 ≤ N) (hw : wo ∈ lW) (hu : u ∈ lU) (hGA : Gr A) (hGB : Gr B) (hW : WPR A wo B u E Q) (hL : LST A la z) (hi : A.sh[inp]? = some (100, 4)) (hr : B.sh[ir]? = some (100, 4)) (hin : ∀ x, x < 4 → A.D inp x = B.D ir x) (hb : BNS S nb) (hc : nb + c + 20 < 8388608) (hR : RVB S E Q B u) (hG : GNV S c Q) : ∃ A4 B4 Q4 la4 z4, F_Ticker_runTick N 116 p wo inp A = some ((), A4) ∧ F_MRunner_tick N 611 w u ir B = some ((), B4) ∧ WPR A4 wo B4 u E Q4 ∧ RVB S E Q4 B4 u ∧ GNV S (c + 16) Q4 ∧ exS (TGA wo) (lkA p wo inp A) la z A4 la4 z4 ∧ same (TGB u) (lkB w u ir B) B4 ∧ A4.D wo 0 = A.D wo 0 + 1 := by
  obtain ⟨q1, q2, q3, q4⟩ := hQ
  obtain ⟨A4, B4, Q4, la4, z4, r1, r2, r3, r4, r5, r6, r7, r8⟩ := tick_jo (N := N) hb q3 q1 q2 hM hN hw hu q4 hc (TKI.mk hT q1 hw hu hGA hGB hW hL hi hr hin) hT.1.2.2.2.2.2 hR hG
  exact ⟨A4, B4, Q4, la4, z4, r1, r2, r3.wp, r4, r5, r6, r7, r8⟩
end Par
