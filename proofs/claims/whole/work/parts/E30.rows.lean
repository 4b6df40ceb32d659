/-! ===== rows of statements, blocks ===== -/
def WRE (E : Nat → Nat → Nat) : Prop := ∀ c, E 20 (E 17 0 - 1) / 2 ^ c % 2 = 1 → E 18 (E 17 0 - 1) / 2 ^ c % 2 = 1 ∧ ¬ E 21 (E 17 0 - 1) / 2 ^ c % 2 = 1
/-- a statement is answered alike -/
def SP0 (N : Nat) (s pl : Int32) (p wo inp cs w u ir M : Nat) (ty mn nu cd : Nat → Int32) (E : Nat → Nat → Nat) (K0 : Nat) (nL lc : Nat) (hd : Nat → Int32) (dp i j a b n2 : Nat) (hd2 : Nat → Int32) : Prop :=
  i < j ∧ a ≤ b ∧ nL ≤ n2 ∧ ∀ d Q V A la z B mk st dr, (SIN p wo inp cs w u ir M ty mn nu cd E Q V nL lc hd K0 i a 0 A la z B mk st dr) → lc ≤ dp → dp ≤ 20 → 20 - dp ≤ d → j < M → b ≤ cs → (SOK N s pl p wo inp cs w u ir M ty mn nu cd E Q V lc hd2 K0 (dsp N (X_RunS N d) B) j a b n2 A la z B st) ∨ (SFL N s pl wo (Q 4 0 * Q 5 0) E (V 0 0) lc K0 (dsp N (X_RunS N d) B) a b A la z B st)
/-- a row of statements -/
def SP1 (N : Nat) (s pl : Int32) (p wo inp cs w u ir M : Nat) (ty mn nu cd : Nat → Int32) (E : Nat → Nat → Nat) (K0 : Nat) (nL lc : Nat) (hd : Nat → Int32) (dp i j a b n2 : Nat) (hd2 : Nat → Int32) : Prop :=
  i ≤ j ∧ a ≤ b ∧ nL ≤ n2 ∧ ∀ d Q V A la z B mk st dr c op, (SIN p wo inp cs w u ir M ty mn nu cd E Q V nL lc hd K0 i a 0 A la z B mk st dr) → lc ≤ dp → dp ≤ 20 → 20 - dp ≤ d → j < M → b ≤ cs → op < M → mn op = nI j → c + (j - i) + 1 ≤ N → (SOK N s pl p wo inp cs w u ir M ty mn nu cd E Q V lc hd2 K0 (B_MRunner_block_15 N (X_RunS N d) 611 (N - c) (nI op) B) (j + 1) a b n2 A la z B st) ∨ (SFL N s pl wo (Q 4 0 * Q 5 0) E (V 0 0) lc K0 (B_MRunner_block_15 N (X_RunS N d) 611 (N - c) (nI op) B) a b A la z B st)
/-- a block -/
def SP2 (N : Nat) (s pl : Int32) (p wo inp cs w u ir M : Nat) (ty mn nu cd : Nat → Int32) (E : Nat → Nat → Nat) (K0 : Nat) (nL lc : Nat) (hd : Nat → Int32) (dp i j a b : Nat) : Prop :=
  (∃ j', j = j' + 1 ∧ mn i = nI j') ∧ i < j ∧ a ≤ b ∧ ∀ d Q V A la z B mk st dr, (SIN p wo inp cs w u ir M ty mn nu cd E Q V nL lc hd K0 i a 0 A la z B mk st dr) → lc ≤ dp → dp ≤ 20 → 20 - dp ≤ d → j < M → b ≤ cs → (SOK N s pl p wo inp cs w u ir M ty mn nu cd E Q V lc hd K0 (X_RunS N (d + 1) 611 B) j a b nL A la z B st) ∨ (SFL N s pl wo (Q 4 0 * Q 5 0) E (V 0 0) lc K0 (X_RunS N (d + 1) 611 B) a b A la z B st)
section Par
variable {N p wo inp cs w u ir M K0 : Nat} {s pl : Int32} {ty mn nu cd : Nat → Int32} {E Q : Nat → Nat → Nat} {V : Nat → Nat → Int32} {nL lc : Nat} {lk : Nat → Nat} {hd : Nat → Int32}
theorem inn_cg {hd2 : Nat → Int32} {e l : Nat} (hx : ∀ x, x < lc → hd2 x = hd x) (h : inn hd2 lc e l) : inn hd lc e l :=
  ⟨h.1, by rw [← hx l h.1]; exact h.2.1, fun l2 y1 y2 => by rw [← hx l2 y2]; exact h.2.2 l2 y1 y2⟩
/-- other kinds of locals behind those that are -/
theorem SIN.hk {hd2 : Nat → Int32} {i a h mk st la z : Nat} {dr : Int32} {A B : Hp} (hI : (SIN p wo inp cs w u ir M ty mn nu cd E Q V nL lc hd K0 i a h A la z B mk st dr)) (hx : ∀ x, x < 100 + nL → hd2 x = hd x) (hl : lc ≤ 100) : (SIN p wo inp cs w u ir M ty mn nu cd E Q V nL lc hd2 K0 i a h A la z B mk st dr) := by
  obtain ⟨i1, i2, i3, i4, i5⟩ := hI
  have c : ∀ e l, inn hd2 lc e l → inn hd lc e l := fun e l y => inn_cg (fun x z => hx x (by omega)) y
  exact ⟨i1.hq (fun _ _ => rfl) (fun e l y1 y2 => i1.1.2.2.2.2.2.2.2.2.2.1 e l (c e l y1) y2) (i1.2.2.2.hq (fun _ _ => rfl) (fun n y z => by rw [← hx (100 + n) (by omega)]; exact z) (fun e l q y1 y2 y3 y4 => i1.2.2.2.2.2.2 e l q (c e l y1) y2 y3 y4)), i2.hq (fun _ _ => rfl) (fun e l y1 y2 => i2.1.2.2.2.2.2.2.2.2 e l (c e l y1) y2), i3, i4, i5⟩
theorem SIN.wk {n2 i a h mk st la z : Nat} {dr : Int32} {A B : Hp} (hI : (SIN p wo inp cs w u ir M ty mn nu cd E Q V nL lc hd K0 i a h A la z B mk st dr)) (hn : n2 ≤ nL) : (SIN p wo inp cs w u ir M ty mn nu cd E Q V n2 lc hd K0 i a h A la z B mk st dr) := by
  obtain ⟨i1, i2, i3, i4, i5⟩ := hI
  exact ⟨i1.vv (fun _ _ _ => rfl) i1.1.2.2.2.2.2.2.1 (fun n y => i1.1.2.2.2.2.2.2.2.2.1 n (by omega)) (i1.2.2.2.nn hn), i2.vv (by have := i2.1.2.2.1; omega) (fun _ _ _ => rfl) i2.1.2.2.2.2.2.1 (fun n y => i2.1.2.2.2.2.2.2.2.1 n (by omega)), i3, i4, i5⟩
theorem SIN.to {i a h mk st la z j : Nat} {dr : Int32} {A B : Hp} (hF : (FIX N p wo w u K0 M E)) (hI : (SIN p wo inp cs w u ir M ty mn nu cd E Q V nL lc hd K0 i a h A la z B mk st dr)) : (SIN p wo inp cs w u ir M ty mn nu cd E Q V nL lc hd K0 j a h A la z (atB B j) mk st dr) := by
  obtain ⟨i1, i2, i3, i4, i5⟩ := hI
  exact ⟨i1, i2.fr hF.2.2.2.2.2.1 hF.2.2.2.2.2.2.1 atB_s (fun a f y => by unfold EXB at y; omega), i3, atB_S i4, i5.ex (h := 0) same.rf atB_s i5.2.2.2.2.2.2.2.1⟩
theorem PRE.at {a mk st la z j : Nat} {dr : Int32} {A B : Hp} (hc : CN A B E (V 0 0) la z K0 mk st dr) : (PRE N s pl wo (Q 4 0 * Q 5 0) E lc V V a a A la z A la z B (atB B j) st st) :=
  ⟨0, by omega, by omega, VR.rf, exS.rf hc.1, atB_s.mono FRB.eb, fun _ _ _ => rfl⟩
/-- a step is counted -/
theorem SIN.step1 {i a h mk st la z : Nat} {dr : Int32} {A B : Hp} (hF : (FIX N p wo w u K0 M E)) (hI : (SIN p wo inp cs w u ir M ty mn nu cd E Q V nL lc hd K0 i a h A la z B mk st dr)) (hcd : cd a = 1) (hst : st < 120) (ha : a < cs) : ∃ A1, VR N s pl 1 A A1 ∧ same (EXO 117 13) A A1 ∧ (SIN p wo inp cs w u ir M ty mn nu cd E Q V nL lc hd K0 i (a + 1) h A1 la z (B.sD 611 8 (nI (st + 1))) mk (st + 1) dr) := by
  obtain ⟨f1, f2, f3, f4, f5, f6, f7, f8⟩ := hF
  obtain ⟨i1, i2, i3, i4, i5⟩ := hI
  obtain ⟨c1, c2, c3, c4, c5, c6, c7, c8, c9, c10, c11, c12⟩ := i5
  obtain ⟨A1, r1, r2, r3, r4⟩ := op_1 (N := N) (s := s) (pl := pl) c6 hst i1.1.1 i3 ha i1.1.2.1 ((i1.1.at_cd ha).trans hcd)
  have hla := c1.2.2.1
  have eB : ∀ f, f ≠ 8 → (B.sD 611 8 (nI (st + 1))).D 611 f = B.D 611 f := fun f y => rdf y
  have eA : ∀ f, f ≠ 6 → f ≠ 12 → f ≠ 13 → A1.D 117 f = A.D 117 f := fun f y1 y2 y3 => r2.1 117 f (by unfold EXO; omega)
  refine ⟨A1, r1, r2, i1.of f1 f4 f5 c1 (r2.exS c1) (fun a f y => by unfold EXO at y; omega), i2.fr f6 f7 (R := fun a f => a = 611 ∧ f = 8) (same.sD same.rf ⟨rfl, rfl⟩) (fun a f y => by omega), r3, ⟨by rw [eB 11 (by decide)]; exact i4.1, by rw [eB 10 (by decide)]; exact i4.2.1, by rw [eB 12 (by decide)]; exact i4.2.2.1, by rw [eB 9 (by decide)]; exact i4.2.2.2⟩, (r2.exS c1).1, by rw [eA 1 (by decide) (by decide) (by decide)]; exact c2, c3, by rw [eA 15 (by decide) (by decide) (by decide)]; exact c4, c5, r4, by omega, by rw [eA 14 (by decide) (by decide) (by decide)]; exact c8, by rw [eB 4 (by decide)]; exact c9, by rw [eB 7 (by decide)]; exact c10, rds, c12.cg (fun y _ => r2.1 la y (by unfold EXO; omega)) (fun y _ => rdw (by decide))⟩
theorem FRA.eo {base : Nat} : ∀ a f, EXO 117 13 a f → FRA wo base E lc a f := fun a f y => by
  unfold EXO at y
  exact .inl ⟨by omega, by omega⟩
theorem SIN.step {i a h mk st la z : Nat} {dr : Int32} {A B : Hp} (hF : (FIX N p wo w u K0 M E)) (hI : (SIN p wo inp cs w u ir M ty mn nu cd E Q V nL lc hd K0 i a h A la z B mk st dr)) (hcd : cd a = 1) (hst : st < 120) (ha : a < cs) : ∃ A1, (PRE N s pl wo (Q 4 0 * Q 5 0) E lc V V a (a + 1) A la z A1 la z B (B.sD 611 8 (nI (st + 1))) st (st + 1)) ∧ (SIN p wo inp cs w u ir M ty mn nu cd E Q V nL lc hd K0 i (a + 1) h A1 la z (B.sD 611 8 (nI (st + 1))) mk (st + 1) dr) := by
  obtain ⟨A1, r1, r2, r3⟩ := hI.step1 (N := N) (s := s) (pl := pl) hF hcd hst ha
  exact ⟨A1, ⟨1, by omega, by omega, r1, (r2.mono FRA.eo).exS hI.2.2.2.2.1, same.sD same.rf (.inl ⟨rfl, by omega⟩), fun _ _ _ => rfl⟩, r3⟩
/-- one step too many -/
theorem SIN.over {i a b h mk la z : Nat} {dr : Int32} {A B B3 : Hp} {X : Option (Unit × Hp)} (hI : (SIN p wo inp cs w u ir M ty mn nu cd E Q V nL lc hd K0 i a h A la z B mk 120 dr)) (hcd : cd a = 1) (ha : a < cs) (hX : X = some ((), B3)) (hB3 : same (fun a f => a = 611 ∧ f = 11 ∨ a = 615 ∨ a = 614) ((B.sD 611 10 5).sD 611 8 (nI 121)) B3) (hB4 : same (FRB E) B B3) (hb : a ≤ b) : (SFL N s pl wo (Q 4 0 * Q 5 0) E (V 0 0) lc K0 X a b A la z B 120) := by
  obtain ⟨i1, i2, i3, i4, i5⟩ := hI
  obtain ⟨c1, c2, c3, c4, c5, c6, c7, c8, c9, c10, c11, c12⟩ := i5
  obtain ⟨A1, r1, r2, r3, r4⟩ := op_1f (N := N) (s := s) (pl := pl) c6 i1.1.1 i3 ha i1.1.2.1 ((i1.1.at_cd ha).trans hcd)
  have hla := c1.2.2.1
  refine ⟨1, A1, la, z, B3, 5, 121, mk, by omega, by omega, by omega, r1, (r2.mono (fun a f y => .inl ⟨y.1, by have := y.2; omega⟩)).exS c1, r3, by decide, by rw [r2.1 117 1 (by omega)]; exact c2, by rw [r2.1 117 15 (by omega)]; exact c4, c5, hX, hB4, by rw [hB3.1 611 10 (by omega), rdf (by decide), rds], (c12.mono (by omega)).cg (fun y _ => r2.1 la y (by omega)) (fun y _ => by rw [hB3.1 612 y (by omega), rdw (by decide), rdw (by decide)])⟩
theorem s_nil {dp i a : Nat} (hF : (FIX N p wo w u K0 M E)) : (SP1 N s pl p wo inp cs w u ir M ty mn nu cd E K0 nL lc hd dp i i a a nL hd) := by
  refine ⟨Nat.le_refl _, Nat.le_refl _, Nat.le_refl _, fun d Q V A la z B mk st dr c op hI k1 k2 k3 k4 k5 k6 k7 k8 => .inl ?_⟩
  obtain ⟨n, hn⟩ : ∃ n, N - c = n + 1 := ⟨N - c - 1, by omega⟩
  exact ⟨A, la, z, atB B (i + 1), V, st, mk, dr, PRE.at hI.2.2.2.2, by rw [hn, ev_b15e hI.2.1.1.1 k6 k4 k7 hI.2.2.2.1], hI.to hF⟩
theorem s_cons {dp i m j a b b2 n1 n2 : Nat} {hd1 hd2 : Nat → Int32} (hF : (FIX N p wo w u K0 M E)) (hcd : cd a = 1) (h1 : (SP0 N s pl p wo inp cs w u ir M ty mn nu cd E K0 nL lc hd dp i m (a + 1) b n1 hd1)) (h2 : (SP1 N s pl p wo inp cs w u ir M ty mn nu cd E K0 n1 lc hd1 dp m j b b2 n2 hd2)) : (SP1 N s pl p wo inp cs w u ir M ty mn nu cd E K0 nL lc hd dp i j a b2 n2 hd2) := by
  obtain ⟨p1, p2, p3, g1⟩ := h1
  obtain ⟨q1, q2, q3, g2⟩ := h2
  refine ⟨by omega, by omega, by omega, fun d Q V A la z B mk st dr c op hI k1 k2 k3 k4 k5 k6 k7 k8 => ?_⟩
  obtain ⟨n, hn⟩ : ∃ n, N - c = n + 1 + 1 := ⟨N - c - 2, by omega⟩
  have hn1 : N - (c + 1) = n + 1 := by omega
  have hG := hI.2.1.1.1.1
  have c8 := hI.2.2.2.2.2.2.2.2.2.2.2.2.2.2.1
  have e := ev_b15s (N := N) (o := X_RunS N d) (n := n + 1) hI.2.1.1.1 k6 (by omega) k4 k7 hI.2.2.2.1
  rw [← hn] at e
  by_cases q : st < 120
  · obtain ⟨A1, r1, r2⟩ := hI.step (N := N) (s := s) (pl := pl) hF hcd q (by omega)
    rw [ev_stm hG c8 q hI.2.2.2.1.2.1] at e
    rcases g1 d Q V A1 la z _ mk (st + 1) dr r2 k1 k2 k3 (by omega) (by omega) with t | t
    · obtain ⟨A2, la2, z2, B2, V2, st2, mk2, dr2, t1, t2, t3⟩ := t
      rw [bC_t t2, ← hn1] at e
      have v0 : V2 0 0 = V 0 0 := by
        obtain ⟨_, _, _, _, _, _, y⟩ := t1
        rw [y 0 (by decide) (by decide)]
      rcases g2 d Q V2 A2 la2 z2 B2 mk2 st2 dr2 (c + 1) op t3 k1 k2 k3 k4 (by omega) k6 k7 (by omega) with x | x
      · rw [← e] at x
        exact .inl (x.pre (r1.tr t1))
      · rw [← e, v0] at x
        exact .inr (x.pre (r1.tr t1))
    · refine .inr (SFL.pre r1 (t.then (by omega) (fun B2 y1 y2 y3 => ⟨atB B2 (j + 1), ?_, same.sD same.rf (.inl ⟨rfl, rfl⟩), y3.tr (atB_s.mono FRB.eb)⟩)))
      rw [e, bC_t y1, ev_b15f (r2.2.1.1.1.sm y3 (fun i => ?_)) k6 k7 y2]
      have := lT_le hF.2.2.2.2.2.1
      unfold FRB
      omega
  · have : st = 120 := by have := hI.2.2.2.2.2.2.2.2.2.2.1; omega
    subst this
    have sB : same (FRB E) B ((B.sD 611 10 5).sD 611 8 (nI 121)) := same.sD (same.sD same.rf (.inl ⟨rfl, by omega⟩)) (.inl ⟨rfl, by omega⟩)
    refine .inr (hI.over hcd (by omega) (B3 := atB ((B.sD 611 10 5).sD 611 8 (nI 121)) (j + 1)) ?_ (same.sD same.rf (.inl ⟨rfl, rfl⟩)) (sB.tr (atB_s.mono FRB.eb)) (by omega))
    rw [e, ev_stf hG c8 hI.2.2.2.1.2.1, bC_v, ev_b15f (hI.2.1.1.1.sm sB (fun i => ?_)) k6 k7 (by rw [rdf (by decide), rds]; decide)]
    have := lT_le hF.2.2.2.2.2.1
    unfold FRB
    omega
theorem s_blk {dp i j a b n1 : Nat} {hd2 : Nat → Int32} (hF : (FIX N p wo w u K0 M E)) (hx : ∀ x, x < 100 + nL → hd x = hd2 x) (h : (SP1 N s pl p wo inp cs w u ir M ty mn nu cd E K0 nL lc hd dp (i + 1) j a b n1 hd2)) (hm : mn i = nI j) : (SP2 N s pl p wo inp cs w u ir M ty mn nu cd E K0 nL lc hd dp i (j + 1) a b) := by
  obtain ⟨q1, q2, q3, g⟩ := h
  refine ⟨⟨j, rfl, hm⟩, by omega, q2, fun d Q V A la z B mk st dr hI k1 k2 k3 k4 k5 => ?_⟩
  have hG := hI.2.1.1.1.1
  have f2 := hF.2.1
  have e : X_RunS N (d + 1) 611 B = B_MRunner_block_15 N (X_RunS N d) 611 (N - 0) (nI i) (atB B (i + 1)) := ev_blk hG hI.2.2.2.1.1
  rw [e]
  rcases g d Q V A la z (atB B (i + 1)) mk st dr 0 i (hI.to hF) k1 k2 k3 (by omega) k5 (by omega) hm (by omega) with t | t
  · obtain ⟨A2, la2, z2, B2, V2, st2, mk2, dr2, t1, t2, t3⟩ := t
    exact .inl ⟨A2, la2, z2, B2, V2, st2, mk2, dr2, (PRE.at hI.2.2.2.2).tr t1, t2, (t3.wk q3).hk hx (by omega)⟩
  · exact .inr (t.pre (PRE.at hI.2.2.2.2))
end Par
