/-! ===== a whole tick ===== -/
/-- the links that a tick sets: class -/
def lkA (p wo inp : Nat) (A : Hp) : Hp := ((((A.sP 116 1 (.ref p)).sP 116 2 (.ref wo)).sP 117 2 (.ref p)).sP 117 3 (.ref wo)).sP 117 4 (.ref inp)
/-- the links that a tick sets: reference -/
def lkB (w u ir : Nat) (B : Hp) : Hp := ((B.sP 611 0 (.ref w)).sP 611 1 (.ref u)).sP 611 2 (.ref ir)
def TGA (wo a f : Nat) : Prop := TFA wo a f ∨ (a = wo ∧ f = 0)
def TGB (u a f : Nat) : Prop := TFB u a f ∨ (a = u ∧ f = 0)
section Par
variable {N p wo inp cs w u ir M K0 : Nat} {s pl : Int32} {ty mn nu cd : Nat → Int32} {E Q : Nat → Nat → Nat} {V : Nat → Nat → Int32} {nL lc : Nat} {lk : Nat → Nat} {hd : Nat → Int32}
theorem tick_ha {A : Hp} (h116 : A.sh[116]? = some (9, 0)) (h117 : A.sh[117]? = some (8, 0)) (hw : A.sh[wo]? = some (7, 0)) (hP : A.P 116 0 = .ref 117) : F_Ticker_runTick N 116 p wo inp A = B_Ticker_runTick_58 N 116 p wo inp N 0 ((((lkA p wo inp A).sD wo 0 (A.D wo 0 + 1)).sD wo 6 0).sD wo 15 0) := by
  unfold F_Ticker_runTick F_Row_open
  generalize h3 : (A.sP 116 1 (.ref p)).sP 116 2 (.ref wo) = H3
  have p0 : H3.P 116 0 = .ref 117 := by rw [← h3]; exact hP
  have p1 : H3.P 116 1 = .ref p := by rw [← h3]; rfl
  have p2 : H3.P 116 2 = .ref wo := by rw [← h3]; rfl
  have s0 : H3.sh[wo]? = some (7, 0) := by rw [← h3]; exact hw
  have s1 : H3.sh[117]? = some (8, 0) := by rw [← h3]; exact h117
  rw [ck_t h116, bnd_t, bnd_t, h3, rf_t p2, ck_t s0, bnd_t, bnd_t, rf_t (show (H3.sD wo 0 (H3.D wo 0 + 1)).P 116 2 = .ref wo from p2), ck_t (show (H3.sD wo 0 (H3.D wo 0 + 1)).sh[wo]? = some (7, 0) from s0), bnd_t, rf_t (show ((H3.sD wo 0 (H3.D wo 0 + 1)).sD wo 6 0).P 116 2 = .ref wo from p2), ck_t (show ((H3.sD wo 0 (H3.D wo 0 + 1)).sD wo 6 0).sh[wo]? = some (7, 0) from s0), bnd_t]
  generalize h16 : ((H3.sD wo 0 (H3.D wo 0 + 1)).sD wo 6 0).sD wo 15 0 = H16
  have q0 : H16.P 116 0 = .ref 117 := by rw [← h16]; exact p0
  have q1 : H16.P 116 1 = .ref p := by rw [← h16]; exact p1
  have q2 : H16.P 116 2 = .ref wo := by rw [← h16]; exact p2
  have q3 : H16.sh[117]? = some (8, 0) := by rw [← h16]; exact s1
  rw [rf_t q0, rf_t q1, rf_t q2, ck_t q3, ck_t q3, bnd_t, bnd_t, bnd_t, bC_v, ← h16, ← h3]
  rfl
theorem tick_hb {B : Hp} (h611 : B.sh[611]? = some (15, 0)) (hu : B.sh[u]? = some (13, 0)) : F_MRunner_tick N 611 w u ir B = B_MRunner_tick_47 N 611 w u ir N 0 ((((lkB w u ir B).sD u 0 (B.D u 0 + 1)).sD u 13 (-1)).sD u 16 0) := by
  unfold F_MRunner_tick
  generalize h4 : ((B.sP 611 0 (.ref w)).sP 611 1 (.ref u)).sP 611 2 (.ref ir) = H4
  have p1 : H4.P 611 1 = .ref u := by rw [← h4]; rfl
  have s0 : H4.sh[u]? = some (13, 0) := by rw [← h4]; exact hu
  rw [ck_t h611, bnd_t, bnd_t, bnd_t, h4, rf_t p1, ck_t s0, bnd_t, bnd_t, rf_t (show (H4.sD u 0 (H4.D u 0 + 1)).P 611 1 = .ref u from p1), ck_t (show (H4.sD u 0 (H4.D u 0 + 1)).sh[u]? = some (13, 0) from s0), bnd_t, rf_t (show ((H4.sD u 0 (H4.D u 0 + 1)).sD u 13 (-1)).P 611 1 = .ref u from p1), ck_t (show ((H4.sD u 0 (H4.D u 0 + 1)).sD u 13 (-1)).sh[u]? = some (13, 0) from s0), bnd_t, ← h4]
  rfl
theorem GNV.wk {S : Nat → Nat} {c c2 : Nat} (h : GNV S c Q) (hc : c ≤ c2) : GNV S c2 Q := fun q hq => by
  have := h q hq
  omega
/-- A TICK IS RUN ALIKE -/
theorem tick_jo {S : Nat → Nat} {nb c la z : Nat} {Pv : Nat → Nat → Int32} {A B : Hp} (hb : BNS S nb) (hPv : PVN E Pv) (hE : WE E) (hGM : GM E) (hM : M + 2 ≤ N) (hN : 2000000 ≤ N) (hw : wo ∈ lW) (hu : u ∈ lU) (hS : SYR M cs ty mn nu cd E) (hc : nb + c + 20 < 8388608) (hI : TKI p wo inp cs w u ir M ty mn nu cd E Q Pv (lkA p wo inp A) la z (lkB w u ir B)) (h15 : A.D p 15 = nI (E 26 0)) (hR : RVB S E Q B u) (hG : GNV S c Q) : ∃ A4 B4 Q4 la4 z4, F_Ticker_runTick N 116 p wo inp A = some ((), A4) ∧ F_MRunner_tick N 611 w u ir B = some ((), B4) ∧ TKI p wo inp cs w u ir M ty mn nu cd E Q4 Pv A4 la4 z4 B4 ∧ RVB S E Q4 B4 u ∧ GNV S (c + 16) Q4 ∧ exS (TGA wo) (lkA p wo inp A) la z A4 la4 z4 ∧ same (TGB u) (lkB w u ir B) B4 ∧ A4.D wo 0 = A.D wo 0 + 1 := by
  have w17 : E 17 0 ≤ 16 := hE.2.2.2.2.2.2.2.2.2.2.2.1
  have g16 := hGM.n16 w17
  have hwo := lW_le hw
  have hu' := lU_le hu
  have hp := hI.2.2.2.1.1
  have hGA := hI.1.1
  have hGB := hI.2.1.1
  have hL := hI.2.2.2.2.2.2.2.1
  have eA := tick_ha (N := N) (p := p) (inp := inp) (wo := wo) (A := A) (show (lkA p wo inp A).sh[116]? = some (9, 0) from rS_116 hGA) (show (lkA p wo inp A).sh[117]? = some (8, 0) from rS_117 hGA) (show (lkA p wo inp A).sh[wo]? = some (7, 0) from WS hI.1.2.2.1) (show (lkA p wo inp A).P 116 0 = .ref 117 from rP_116_0 hGA)
  have eB := tick_hb (N := N) (w := w) (ir := ir) (u := u) (B := B) (show (lkB w u ir B).sh[611]? = some (15, 0) from rS_611 hGB) (show (lkB w u ir B).sh[u]? = some (13, 0) from US hI.2.1.2.2.1)
  have dA0 : (lkA p wo inp A).D = A.D := rfl
  have dB0 : (lkB w u ir B).D = B.D := rfl
  have hI' := hI
  obtain ⟨a1, a2, ⟨w1, w2, w3, w4, w5, w6, w7⟩, -, -, -, -, -, -, -, -, a12, a13, a14, a15⟩ := hI
  generalize hA1 : ((((lkA p wo inp A).sD wo 0 (A.D wo 0 + 1)).sD wo 6 0).sD wo 15 0) = A1 at eA
  generalize hB1 : ((((lkB w u ir B).sD u 0 (B.D u 0 + 1)).sD u 13 (-1)).sD u 16 0) = B1 at eB
  have sA : same (fun a f => a = wo ∧ (f = 0 ∨ f = 6 ∨ f = 15)) (lkA p wo inp A) A1 := by
    rw [← hA1]
    exact ((same.rf.sD ⟨rfl, by omega⟩).sD ⟨rfl, by omega⟩).sD ⟨rfl, by omega⟩
  have sB : same (fun a f => a = u ∧ (f = 0 ∨ f = 13 ∨ f = 16)) (lkB w u ir B) B1 := by
    rw [← hB1]
    exact ((same.rf.sD ⟨rfl, by omega⟩).sD ⟨rfl, by omega⟩).sD ⟨rfl, by omega⟩
  have A0 : A1.D wo 0 = A.D wo 0 + 1 := by rw [← hA1, rdf (by decide), rdf (by decide), rds]
  have A6 : A1.D wo 6 = 0 := by rw [← hA1, rdf (by decide), rds]
  have A15 : A1.D wo 15 = 0 := by rw [← hA1, rds]
  have B0 : B1.D u 0 = B.D u 0 + 1 := by rw [← hB1, rdf (by decide), rdf (by decide), rds]
  have B13 : B1.D u 13 = -1 := by rw [← hB1, rdf (by decide), rds]
  have B16 : B1.D u 16 = 0 := by rw [← hB1, rds]
  have dA : ∀ a f, ¬ (a = wo ∧ (f = 0 ∨ f = 6 ∨ f = 15)) → A1.D a f = (lkA p wo inp A).D a f := fun a f y => sA.1 a f y
  have dB : ∀ a f, ¬ (a = u ∧ (f = 0 ∨ f = 13 ∨ f = 16)) → B1.D a f = (lkB w u ir B).D a f := fun a f y => sB.1 a f y
  have I1 : TKI p wo inp cs w u ir M ty mn nu cd E (upR Q 5 3 0) Pv A1 la z B1 := by
    refine hI'.fr hw hu (sA.mono fun a f y => by omega) (sB.mono fun a f y => by omega) ?_ (by rw [A0, B0]; rw [dA0, dB0] at a12; rw [a12]) (by rw [dA _ _ (by omega), dB _ _ (by omega)]; exact a13) (by rw [dA _ _ (by omega), dB _ _ (by omega)]; exact a14) ?_
    · unfold WRL PPL PPB
      rw [upR_o (show (0 : Nat) ≠ 5 by decide), upR_o (show (1 : Nat) ≠ 5 by decide), upR_o (show (2 : Nat) ≠ 5 by decide), upR_n (show (0 : Nat) ≠ 3 by decide), upR_n (show (1 : Nat) ≠ 3 by decide), upR_n (show (2 : Nat) ≠ 3 by decide), upR_s]
      refine ⟨fun q hq => by rw [dA _ _ (by omega), dA _ _ (by omega)]; exact w1 q hq, fun q hq => by rw [dB _ _ (by omega), dB _ _ (by omega), dB _ _ (by omega)]; exact w2 q hq, fun q c m y1 y2 y3 y4 => by rw [dA _ _ (by omega), dB _ _ (by omega)]; exact w3 q c m y1 y2 y3 y4, ⟨by rw [dA _ _ (by omega)]; exact w4.1, w4.2⟩, ⟨by rw [dA _ _ (by omega)]; exact w5.1, w5.2⟩, ⟨by rw [dA _ _ (by omega)]; exact w6.1, by rw [dB _ _ (by omega)]; exact w6.2.1, w6.2.2.1, fun k hk => ?_⟩, A15, B16, by omega, fun k hk => by omega⟩
      rw [dA _ _ (by omega), dA _ _ (by omega), dA _ _ (by omega), dB _ _ (by omega), dB _ _ (by omega), dB _ _ (by omega)]
      obtain ⟨m0, m1, m2, m3⟩ := w6.2.2.2 k hk
      exact ⟨m0, m1, m2, fun e q y1 y2 y3 => by rw [dA _ _ (by omega), dB _ _ (by omega)]; exact m3 e q y1 y2 y3⟩
    · refine ⟨by rw [dA _ _ (by omega), dB _ _ (by omega)]; exact a15.1, .inl ⟨A6, by rw [B13]; decide⟩⟩
  have R1 : RVB S E (upR Q 5 3 0) B1 u := by
    have kn : ∀ y, KN S Q y → KN S (upR Q 5 3 0) y := fun y h => h.mono (fun q _ => by rw [upR_o (by decide)]; exact Nat.le_refl _)
    refine ⟨fun q c m y1 y2 y3 y4 y5 => ?_, fun k hk e q y1 y2 y3 y4 => ?_, fun k hk => by rw [upR_n (by decide)] at hk; rw [dB _ _ (by omega)]; exact hR.2.2 k hk⟩
    · rw [upR_o (by decide)] at y2 y3
      rw [dB _ _ (by omega)]
      exact kn _ (hR.1 q c m y1 y2 y3 y4 y5)
    · rw [upR_n (by decide)] at hk
      rw [dB _ _ (by omega)] at y1
      rw [dB _ _ (by omega)]
      exact kn _ (hR.2.1 k hk e q y1 y2 y3 y4)
  have G1 : GNV S c (upR Q 5 3 0) := fun q hq => by
    rw [upR_o (by decide)]
    exact hG q hq
  obtain ⟨A4, B4, Q4, la4, z4, r1, r2, r3, r4, r5, r6, r7⟩ := tk_lp (N := N) hb hPv hE hGM hM hN hw hu hS (E 26 0) 0 0 c N N A1 B1 _ la z (by omega) hGM.at0 (by omega) (by omega) (by omega) I1 (by rw [dA _ _ (by omega)]; exact h15) R1 G1
  refine ⟨A4, B4, Q4, la4, z4, eA.trans r1, eB.trans r2, r3, r4, r5.wk (by omega), ?_, ?_, ?_⟩
  · exact ((sA.mono fun a f y => by unfold TGA TFA; omega).exS hL).tr (r6.mono fun a f y => .inl y)
  · exact (sB.mono fun a f y => by unfold TGB TFB; omega).tr (r7.mono fun a f y => .inl y)
  · have hlen := I1.1.1.len
    have hla := hL.2.2.1
    rw [r6.2.2.1 wo 0 (by omega) (by unfold TFA; omega) (by omega)]
    exact A0
end Par
