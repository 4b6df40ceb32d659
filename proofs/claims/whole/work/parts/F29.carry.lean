/-! ===== swap: both worlds are carried alike ===== -/
theorem cvl_e {E E' : Nat → Nat → Nat} {V V' : Nat → Int32} {m : Nat} {mo : Option Nat} (h : ∀ m0, mo = some m0 → V m0 = V' m0) : cvl E E' V m mo = cvl E E' V' m mo := by
  cases mo with
  | none => rfl
  | some m0 =>
    show trn _ _ (V m0) = trn _ _ (V' m0)
    rw [h m0 rfl]
theorem cmO_i {E : Nat → Nat → Nat} {Nm Nm' : Nat → Nat → List Nat} {c d : Nat} (hQ : NMQ E Nm) : cmO E Nm Nm' d = some c ↔ c < E 4 0 ∧ Nm 8 c = Nm' 8 d := by
  have f := fdn_f (f := Nm 8) (n := Nm' 8 d) (c := E 4 0)
  refine ⟨fun y => f.1 c y, fun y => ?_⟩
  cases hx : cmO E Nm Nm' d with
  | none => exact absurd y.2 (f.2 hx c y.1)
  | some x =>
    obtain ⟨f1, f2⟩ := f.1 x hx
    rw [hQ.i8 f1 y.1 (by rw [f2, y.2])]
theorem bits_eq {x y : Nat} (h : ∀ e, x / 2 ^ e % 2 = 1 ↔ y / 2 ^ e % 2 = 1) : x = y := by
  apply Nat.eq_of_testBit_eq
  intro e
  have := h e
  rw [bit_tb, bit_tb] at this
  cases hx : x.testBit e with
  | true => rw [this.mp hx]
  | false =>
    cases hy : y.testBit e with
    | true => rw [this.mpr hy] at hx; cases hx
    | false => rfl
section Par
variable {N p wo inp cs w u ir M K0 : Nat} {s pl : Int32} {ty mn nu cd : Nat → Int32} {E Q : Nat → Nat → Nat} {V : Nat → Nat → Int32} {nL lc : Nat} {lk : Nat → Nat} {hd : Nat → Int32}
variable {p2 uk wk cs' M' : Nat} {ty' mn' nu' cd' : Nat → Int32} {E' : Nat → Nat → Nat} {Nm Nm' : Nat → Nat → List Nat} {Pv Pv' : Nat → Nat → Int32}
theorem ENA.sm {R : Nat → Nat → Prop} {A A' : Hp} (h : ENA A p E Nm Pv) (hE : WE E) (hp : p = 133 ∨ p = 325) (hG : Gr A) (hs : same R A A') (hR : ∀ a f, R a f → a < 133) : ENA A' p E Nm Pv := h.fw hE (fun a f y1 y2 => hs.1 _ _ (fun z => by have := hR a f z; omega)) (fun a n y1 y2 y => y.gw hs.gw (WA_7 (gr_W hG 12 (by decide))) (fun x f z => by have := hR x f z; omega) (fun f z => by have := hR a f z; omega) (by omega) hG.len)
theorem carry_jo {S : Nat → Nat} {A B : Hp} (hGA : Gr A) (hGB : Gr B) (hT : TXF A p B w cs M ty mn nu cd E Nm Pv) (hT' : TXF A p2 B wk cs' M' ty' mn' nu' cd' E' Nm' Pv') (hE : WE E) (hE' : WE E') (hQ : NMQ E Nm) (hQ' : NMQ E' Nm') (hu : u ∈ lU) (huk : uk ∈ lU) (hne : u ≠ uk) (b9 : B.P 517 9 = .ref u) (b10 : B.P 517 10 = .ref uk) (b3 : B.P 517 3 = .ref w) (b4 : B.P 517 4 = .ref wk) (hW : WPR A 12 B u E Q) (hR : RVB S E Q B u) (hN : 2000000 ≤ N) : ∃ A2 B2 Q2, F_Play_carry N 11 p p2 A = some ((), A2) ∧ F_M_carries N 517 B = some ((), B2) ∧ same (fun a f => cW 12 a f ∨ cW 19 a f) A A2 ∧ same (cU uk) B B2 ∧ WPR A2 12 B2 uk E' Q2 ∧ RVB S E' Q2 B2 uk ∧ (∀ q, Q2 0 q = Q 0 q) ∧ A2.D 12 0 = A.D 12 0 := by
  have hw := hT.2.2.2.1
  have hwk := hT'.2.2.2.1
  have hp := hT.2.2.1
  have hp2 := hT'.2.2.1
  have hGy : CYG u uk w wk E E' Nm Nm' := ⟨⟨hE, hE'⟩, ⟨hQ, hQ'⟩, hw, hwk, hu, huk, hne⟩
  have nb := hGy.nb
  have hW0 := hW
  obtain ⟨⟨w1, w2, w3, w4, w5, w6, w7⟩, wt0, wt1, wt3, wf⟩ := hW0
  -- class: the copy
  have eS : F_Play_scratch N 11 A = some (some 19, A) := by
    unfold F_Play_scratch
    rw [ck_t (rS_11 hGA), rf_t (rP_11_6 hGA), ar_t (rA_11_6 hGA), ck_t (show inb (0 : Int32) 16 by decide), rf_t (show A.P 18 ((0 : Int32)).toNatClampNeg = .ref 19 from rP_18 (k := 0) hGA (by omega))]
  obtain ⟨A1, c1, c2, c3⟩ := hW.cpA (N := N) (wo := 19) (by decide) (by decide) (by decide) hGA hE
  have G1 := c2.gr hGA
  have P2 := gr_P G1 hp2
  have hE4 : E' 4 0 ≤ 16 := hE'.1
  have h48 : E' 5 (E' 4 0) ≤ 48 := hE'.2.2.2.1
  have N1 := hT.1.sm hE hp hGA c2 (fun a f z => by unfold cW at z; omega)
  have N2 := hT'.1.sm hE' hp2 hGA c2 (fun a f z => by unfold cW at z; omega)
  have eT : F_Shapes_total N (p2 + 70) A1 = some (nI (E' 5 (E' 4 0)), A1) := by
    unfold F_Shapes_total
    rw [ck_t (PrA_2 P2), rf_t (PcP_2 P2), bnd_t, N2.2.1.1, ar_t (PcA_2 P2), rdI (show E' 4 0 < 17 by omega) (by decide), N2.2.1.2.1 _ (Nat.le_refl _)]
  have s3 : same (fun a f => a = 12 ∧ (f = 6 ∨ f = 10)) A1 ((A1.sD 12 10 (nI (E' 5 (E' 4 0)))).sD 12 6 0) := (same.rf.sD ⟨rfl, .inr rfl⟩).sD ⟨rfl, .inl rfl⟩
  have v10 : ((A1.sD 12 10 (nI (E' 5 (E' 4 0)))).sD 12 6 0).D 12 10 = nI (E' 5 (E' 4 0)) := by rw [rdf (by decide), rds]
  have v6 : ((A1.sD 12 10 (nI (E' 5 (E' 4 0)))).sD 12 6 0).D 12 6 = 0 := rds
  have eC : ∀ X, B_World_carryFrom_23 N 12 19 p p2 N (p2 + 70) 0 ((A1.sD 12 10 (nI (E' 5 (E' 4 0)))).sD 12 6 0) = some ((), X) → F_Play_carry N 11 p p2 A = some ((), X) := fun X y => by
    have eF : F_World_carryFrom N 12 19 p p2 A1 = some ((), X) := by
      unfold F_World_carryFrom
      rw [ck_t (PrS P2), rf_t (PrP_2 P2), ck_t (PrA_2 P2), bC_t eT, ck_t (WS (gr_W G1 12 (by decide))), bnd_t, bnd_t]
      exact y
    unfold F_Play_carry
    rw [ck_t (rS_11 hGA), bC_t eS]
    show (rf (A.P 11 0) fun a6 => ck (A.sh[19]? = some (7, 0)) <| bC (F_World_copyFrom N 19 a6 A) fun v10 H11 => rf (H11.P 11 0) fun a12 => ck (H11.sh[a12]? = some (7, 0)) <| bC (F_World_carryFrom N a12 19 p p2 H11) fun v16 H17 => some ((), H17)) = _
    rw [rf_t (rP_11_0 hGA), ck_t (WS (gr_W hGA 19 (by decide))), bC_t c1, rf_t (rP_11_0 G1), ck_t (WS (gr_W G1 12 (by decide))), bC_t eF]
  generalize (A1.sD 12 10 (nI (E' 5 (E' 4 0)))).sD 12 6 0 = A3 at *
  have G3 := s3.gr G1
  have t9 : Q 5 1 ≤ 256 := w5.2.1
  have hF : CYF 12 19 p p2 E E' Q (Q 5 1) (E' 5 (E' 4 0)) := ⟨⟨hE, hE'⟩, hp, hp2, by decide, by decide, t9, h48, w4.2.1, fun q hq y => Decidable.byContradiction fun z => w5.2.2 q (by omega) hq y, rfl⟩
  have d1 : ∀ a f, ¬ cW 19 a f → A1.D a f = A.D a f := fun a f y => c2.1 _ _ y
  have C3 : CYA A3 12 19 p p2 E E' Nm Nm' Pv Pv' Q (Q 5 1) (E' 5 (E' 4 0)) := by
    refine ⟨⟨gr_W G3 12 (by decide), gr_W G3 19 (by decide), gr_P G3 hp, gr_P G3 hp2⟩, ⟨N1.sm hE hp G1 s3 (fun a f z => by omega), N2.sm hE' hp2 G1 s3 (fun a f z => by omega)⟩, ⟨fun q hq => ?_, ?_, ?_, v10⟩, G3.len⟩
    · rw [s3.1 _ _ (by omega), s3.1 _ _ (by omega)]
      exact c3.1.1 q hq
    · rw [s3.1 _ _ (by omega)]; exact c3.1.2.2.2.1.1
    · rw [s3.1 _ _ (by omega), d1 _ _ (by unfold cW; omega)]; exact w5.1
  obtain ⟨A4, r1, r2, r3⟩ := cf_23 (N := N) hF (Q 5 1) 0 N A3 (by omega) (by omega) C3
  have C4 := C3.fr hF r2 (fun a f z => .inr (.inl z))
  have X0 : ∀ q, q < 256 → A4.D (12 + 2) q = if Q 1 q = 1 then nI ((fun _ => 0) q) else -1 := fun q hq => by
    rw [r3 q, s3.1 _ _ (by omega), d1 _ _ (by unfold cW; omega), (w1 q hq).2.2.2]
    by_cases y : Q 1 q = 1
    · rw [if_pos ⟨Nat.zero_le _, hF.2.2.2.2.2.2.2.2.1 q hq y, y⟩, if_pos y]
      rfl
    · rw [if_neg (fun k => y k.2.2), if_neg y, if_neg y]
  obtain ⟨A5, X2, t1, t2, t3, t4, t5, t6⟩ := cf_59 (N := N) hF (by omega) (E' 4 0) 0 N A4 (fun _ => 0) (by omega) (by omega) C4 X0 (fun q => by decide)
  have C5 := C4.fr hF t2 (fun a f z => by omega)
  have dA5 : ∀ a f, ¬ cW 19 a f → a ≠ 14 → a ≠ 15 → ¬ (a = 12 ∧ (f = 6 ∨ f = 10)) → A5.D a f = A.D a f := fun a f y1 y2 y3 y4 => by
    rw [t2.1 _ _ (by omega), r2.1 _ _ (by omega), s3.1 _ _ y4, d1 _ _ y1]
  -- reference: the copy
  obtain ⟨B1, m1, m2, m3, -⟩ := hW.cpB (N := N) (u := uk) hN huk hu (fun y => hne y.symm) hGB hE
  have H1 := m2.gr hGB
  have s13 : same (fun a f => a = uk ∧ f = 13) B1 (B1.sD uk 13 (-1)) := same.rf.sD ⟨rfl, rfl⟩
  have u13 : (B1.sD uk 13 (-1)).D uk 13 = -1 := rds
  have eB : ∀ X, B_M_carries_22 N 517 N u uk 0 (B1.sD uk 13 (-1)) = some ((), X) → F_M_carries N 517 B = some ((), X) := fun X y => by
    unfold F_M_carries
    rw [ck_t (rS_517 hGB), rf_t b9, rf_t b10, ck_t (US (gr_U hGB uk huk)), bC_t m1, bnd_t]
    exact y
  generalize B1.sD uk 13 (-1) = B3 at *
  have H3 := s13.gr H1
  have dB3 : ∀ a f, ¬ cU uk a f → B3.D a f = B.D a f := fun a f y => by rw [s13.1 _ _ (by unfold cU at y; omega), m2.1 _ _ y]
  have P3 : B3.P = B.P := by rw [s13.2.1, m2.2.1]
  have D3 : CYB B3 u uk w wk E E' Nm Nm' Pv Pv' Q := by
    refine ⟨⟨gr_U H3 u hu, gr_U H3 uk huk, gr_T H3 w hw, gr_T H3 wk hwk⟩, ⟨hT.2.1.fw fun a f y1 y2 => dB3 a f (by unfold cU; omega), hT'.2.1.fw fun a f y1 y2 => dB3 a f (by unfold cU; omega)⟩, ⟨by rw [P3]; exact b3, by rw [P3]; exact b4, rS_517 H3⟩, fun q hq => ?_⟩
    rw [dB3 _ _ (by unfold cU; omega), dB3 _ _ (by unfold cU; omega), dB3 _ _ (by unfold cU; omega)]
    exact w2 q hq
  obtain ⟨B4, Y, n1, n2, n3⟩ := cb_22 (N := N) hGy (by omega) 256 0 N B3 (by omega) (by omega) D3
  have D4 := D3.fr hGy n2 (fun a f z => by omega)
  have s8 : same (fun a f => a = uk ∧ f = 8) B4 (B4.sD uk 8 0) := same.rf.sD ⟨rfl, rfl⟩
  have u8 : (B4.sD uk 8 0).D uk 8 = nI 0 := rds
  generalize B4.sD uk 8 0 = B5 at *
  have D5 := D4.fr hGy s8 (fun a f z => by omega)
  have dB5 : ∀ a f, ¬ cU uk a f → B5.D a f = B.D a f := fun a f y => by rw [s8.1 _ _ (by unfold cU at y; omega), n2.1 _ _ (by unfold cU at y; omega)]; exact dB3 a f y
  obtain ⟨A6, B6, P2', o1, o2, o3, o4, o5, o6, o7, o8⟩ := ce_jo (N := N) (K := fun v => KN S Q (ixv v)) (P := Q 5 2) hF hGy (by omega) w6.2.2.1 (Q 5 2) 0 0 N N A5 B5 (by omega) (Nat.le_refl _) (by have := w6.2.2.1; omega) (by have := w6.2.2.1; omega) C5 (by rw [dA5 _ _ (by unfold cW; omega) (by decide) (by decide) (by omega)]; exact w6.1) D5 (by rw [dB5 _ _ (by unfold cU; omega)]; exact w6.2.1) u8 (fun x _ hx => by
    obtain ⟨e, e1, e2⟩ := hR.2.2 x hx
    obtain ⟨k1, k2, k3, k4⟩ := w6.2.2.2 x hx
    have : PNK (fun v => KN S Q (ixv v)) A 12 B u E x := ⟨⟨k1, k2, k3, k4, e, e1, e2⟩, fun e q y1 y2 y3 y4 => hR.2.1 x hx e q y1 y2 y3 y4⟩
    exact this.fr (fun f _ _ => dA5 _ _ (by unfold cW; omega) (by decide) (by decide) (by omega)) (fun a f y => dB5 _ _ (by unfold cU; omega)) hE) (fun x hx => by omega)
  have fA : ∀ a f, ¬ cW 19 a f → a ≠ 14 → a ≠ 15 → a ≠ 16 → ¬ (a = 12 ∧ (f = 6 ∨ f = 10 ∨ f = 13)) → A6.D a f = A.D a f := fun a f y1 y2 y3 y4 y5 => by
    rw [o3.1 _ _ (by omega)]
    exact dA5 a f y1 y2 y3 (by omega)
  have fB : ∀ a f, (a = uk ∧ f ≠ 8 ∧ f ≠ 13) ∨ a = uk + 1 ∨ a = uk + 2 ∨ a = uk + 9 → B6.D a f = B1.D a f := fun a f y => by
    rw [o4.1 _ _ (by omega), s8.1 _ _ (by omega), n2.1 _ _ (by omega), s13.1 _ _ (by omega)]
  have xy : ∀ q, q < 256 → Q 1 q = 1 → Y q = X2 q := fun q hq y => bits_eq fun e => by
    rw [(n3 q (Nat.zero_le _) hq y).2.2.1 e, t5 q hq y e, Nat.zero_div]
    constructor
    · rintro ⟨k1, c, k2, k3, k4⟩
      exact .inr ⟨Nat.zero_le _, k1, c, (cmO_i hQ).mpr ⟨k2, k3⟩, k4⟩
    · rintro (k | ⟨-, k1, c, k2, k3⟩)
      · exact absurd k (by decide)
      · obtain ⟨l1, l2⟩ := (cmO_i hQ).mp k2
        exact ⟨k1, c, l1, l2, k3⟩
  generalize hq2 : (fun x y => if x = 2 then X2 y else if x = 5 ∧ y = 0 then E' 5 (E' 4 0) else if x = 5 ∧ y = 2 then P2' else Q x y : Nat → Nat → Nat) = Q2
  have q22 : ∀ y, Q2 2 y = X2 y := fun y => by rw [← hq2]; exact if_pos rfl
  have q50 : Q2 5 0 = E' 5 (E' 4 0) := by rw [← hq2]; rfl
  have q52 : Q2 5 2 = P2' := by rw [← hq2]; rfl
  have qo : ∀ x y, x ≠ 2 → ¬ (x = 5 ∧ (y = 0 ∨ y = 2)) → Q2 x y = Q x y := fun x y h1 h2 => by
    rw [← hq2]
    show (if x = 2 then X2 y else if x = 5 ∧ y = 0 then E' 5 (E' 4 0) else if x = 5 ∧ y = 2 then P2' else Q x y) = Q x y
    rw [if_neg h1, if_neg (by omega), if_neg (by omega)]
  -- the value of a member, both sides
  have val : ∀ q d m, q < 256 → Q 1 q = 1 → X2 q / 2 ^ d % 2 = 1 → mOf E' d m → ∃ c, cmO E Nm Nm' d = some c ∧ Q 2 q / 2 ^ c % 2 = 1 ∧ B6.D (uk + 4) (48 * q + m) = cvl E E' (fun m0 => B.D (u + 4) (48 * q + m0)) m (mmO E Nm Nm' (some c) m) ∧ A6.D (12 + 3) (q * E' 5 (E' 4 0) + m) = cvl E E' (fun m0 => A1.D (19 + 3) (q * Q 5 0 + m0)) m (mmO E Nm Nm' (some c) m) := fun q d m hq y1 y2 y3 => by
    rw [t5 q hq y1 d, Nat.zero_div] at y2
    rcases y2 with k | ⟨-, k1, c, k2, k3⟩
    · exact absurd k (by decide)
    · obtain ⟨l1, l2⟩ := (cmO_i hQ).mp k2
      refine ⟨c, k2, k3, ?_, ?_⟩
      · rw [o4.1 _ _ (by omega), s8.1 _ _ (by omega), (n3 q (Nat.zero_le _) hq y1).2.2.2 d m c y3 l1 l2 k3]
        exact cvl_e fun m0 _ => dB3 _ _ (by unfold cU; omega)
      · rw [o3.1 _ _ (by omega), t6 d m q (Nat.zero_le _) y3 (hF.2.2.2.2.2.2.2.2.1 q hq y1), k2]
        exact cvl_e fun m0 _ => by
          show A4.D (19 + 3) (q * Q 5 0 + m0) = A1.D (19 + 3) (q * Q 5 0 + m0)
          rw [r2.1 _ _ (by omega), s3.1 _ _ (by omega)]
  have mof : ∀ c m m0, c < E 4 0 → mmO E Nm Nm' (some c) m = some m0 → mOf E c m0 := fun c m m0 hc y => by
    obtain ⟨k1, k2, -⟩ := fnm_bd _ _ _ (show fnm (Nm 7) (Nm' 7 m) (E 5 (c + 1) - E 5 c) (E 5 c) = some m0 from y)
    exact ⟨hc, k1, by omega⟩
  refine ⟨A6, B6, Q2, eC A6 ?_, eB B6 ?_, ?_, ?_, ⟨⟨fun q hq => ?_, fun q hq => ?_, fun q d m hq y1 y2 y3 => ?_, ⟨?_, by rw [q50]; exact h48, fun c m y => by rw [q50]; exact (mOf_lt hE' y).1⟩, ⟨?_, by rw [qo _ _ (by decide) (by omega)]; exact t9, fun q y1 y2 => by rw [qo _ _ (by decide) (by omega)]; rw [qo _ _ (by decide) (by omega)] at y1; exact w5.2.2 q y1 y2⟩, ⟨by rw [q52]; exact o6, by rw [q52]; exact o7, by rw [q52]; have := w6.2.2.1; omega, fun k hk => by rw [q52] at hk; obtain ⟨⟨k1, k2, k3, k4, -⟩, -⟩ := o8 k hk; exact ⟨k1, k2, k3, k4⟩⟩, ?_, ?_, by rw [qo _ _ (by decide) (by omega)]; exact w7.2.2.1, fun k hk => ?_⟩, ?_, ?_, ?_, ?_, ?_⟩, ⟨fun q d m hq y1 y2 y3 y4 => ?_, fun k hk e q y1 y2 y3 y4 => ?_, fun k hk => ?_⟩, fun q => qo _ _ (by decide) (by omega), fA _ _ (by unfold cW; omega) (by decide) (by decide) (by decide) (by omega)⟩
  · exact r1.trans (t1.trans (by unfold F_World_carryEvents; rw [show B_World_carryEvents_5 N 12 p p2 N 0 0 A5 = some ((), A6) from o1]; rfl))
  · exact n1.trans o2
  · exact (((c2.mono fun a f y => .inr y).tr (s3.mono fun a f y => .inl (by unfold cW; omega))).tr (r2.mono fun a f y => .inl (by unfold cW; omega))).tr ((t2.mono fun a f y => .inl (by unfold cW; omega)).tr (o3.mono fun a f y => .inl (by unfold cW; omega)))
  · exact ((m2.tr (s13.mono fun a f y => by unfold cU; omega)).tr (n2.mono fun a f y => by unfold cU; omega)).tr ((s8.mono fun a f y => by unfold cU; omega).tr (o4.mono fun a f y => by unfold cU; omega))
  · obtain ⟨k1, k2, k3, k4⟩ := w1 q hq
    rw [fA _ _ (by unfold cW; omega) (by decide) (by decide) (by decide) (by omega), qo 0 _ (by decide) (by omega), qo 1 _ (by decide) (by omega), q22, o3.1 _ _ (by omega)]
    exact ⟨k1, k2, t4 q, t3 q hq⟩
  · obtain ⟨k1, k2, k3, k4, k5⟩ := m3.1.2.1 q hq
    rw [fB _ _ (by omega), fB _ _ (by omega), qo 0 _ (by decide) (by omega), qo 1 _ (by decide) (by omega), q22]
    refine ⟨k1, k2, t4 q, k4, fun y => ?_⟩
    rw [o4.1 _ _ (by omega), s8.1 _ _ (by omega), (n3 q (Nat.zero_le _) hq y).1, xy q hq y]
  · rw [qo _ _ (by decide) (by omega)] at y1
    rw [q22] at y2
    obtain ⟨c, k1, k2, k3, k4⟩ := val q d m hq y1 y2 y3
    rw [q50, k3, k4]
    refine cvl_e fun m0 y => ?_
    exact c3.1.2.2.1 q c m0 hq y1 k2 (mof c m m0 ((cmO_i hQ).mp k1).1 y)
  · rw [q50, o3.1 _ _ (by omega)]; exact C5.2.2.1.2.2.2
  · rw [qo _ _ (by decide) (by omega), o3.1 _ _ (by omega)]; exact C5.2.2.1.2.2.1
  · rw [qo _ _ (by decide) (by omega), fA _ _ (by unfold cW; omega) (by decide) (by decide) (by decide) (by omega)]; exact w7.1
  · rw [qo _ _ (by decide) (by omega), fB _ _ (by omega)]; exact m3.1.2.2.2.2.2.2.2.1
  · rw [qo _ _ (by decide) (by omega)] at hk
    rw [fA _ _ (by unfold cW; omega) (by decide) (by decide) (by decide) (by omega), fB _ _ (by omega)]
    exact m3.1.2.2.2.2.2.2.2.2.2 k hk
  · rw [fA _ _ (by unfold cW; omega) (by decide) (by decide) (by decide) (by omega), fB _ _ (by omega)]; exact m3.2.1
  · rw [fA _ _ (by unfold cW; omega) (by decide) (by decide) (by decide) (by omega), fB _ _ (by omega)]; exact m3.2.2.1
  · rw [fA _ _ (by unfold cW; omega) (by decide) (by decide) (by decide) (by omega), fB _ _ (by omega)]; exact m3.2.2.2.1
  · rw [fA _ _ (by unfold cW; omega) (by decide) (by decide) (by decide) (by omega), fB _ _ (by omega)]; exact m3.2.2.2.2.1
  · refine .inl ⟨?_, ?_⟩
    · rw [o3.1 _ _ (by omega), t2.1 _ _ (by omega), r2.1 _ _ (by omega)]; exact v6
    · rw [o4.1 _ _ (by omega), s8.1 _ _ (by omega), n2.1 _ _ (by omega), u13]; decide
  · rw [qo _ _ (by decide) (by omega)] at y1
    rw [q22] at y2
    obtain ⟨c, k1, k2, k3, -⟩ := val q d m hq y1 y2 y3
    rw [k3]
    refine KN.mono (Q := Q) ?_ (fun x _ => by rw [qo _ _ (by decide) (by omega)]; exact Nat.le_refl _)
    have hc := ((cmO_i hQ).mp k1).1
    cases hmo : mmO E Nm Nm' (some c) m with
    | none =>
      show KN S Q (ixv (fstV (E' 6 m)))
      rw [y4, show fstV 4 = -1 from rfl, ixv_m]
      exact .inl rfl
    | some m0 =>
      show KN S Q (ixv (trn (E 6 m0) (E' 6 m) (B.D (u + 4) (48 * q + m0))))
      unfold trn
      rw [y4]
      by_cases k : E 6 m0 = 4
      · rw [if_pos k]
        exact hR.1 q c m0 hq y1 k2 (mof c m m0 hc hmo) k
      · rw [if_neg k, if_pos (.inr rfl), show fstV 4 = -1 from rfl, ixv_m]
        exact .inl rfl
  · rw [q52] at hk
    exact ((o8 k hk).2 e q y1 y2 y3 y4).mono (fun x _ => by rw [qo _ _ (by decide) (by omega)]; exact Nat.le_refl _)
  · rw [q52] at hk
    obtain ⟨⟨-, -, -, -, k5⟩, -⟩ := o8 k hk
    exact k5
end Par
