/-! ===== the shapes are written, both sides ===== -/
/-- what writing reads of both sides -/
def WDT (p cs w M : Nat) (ty mn nu cd : Nat → Int32) (E : Nat → Nat → Nat) (Nm : Nat → Nat → List Nat) (Pv : Nat → Nat → Int32) (Q : Nat → Nat → Nat) (un : Nat) (A B : Hp) : Prop := Gr A ∧ Gr B ∧ TXF A p B w cs M ty mn nu cd E Nm Pv ∧ un ∈ lU ∧ B.P 517 3 = .ref w ∧ B.P 517 9 = .ref un ∧ WPR A 12 B un E Q ∧ PEV E Q B un
section Par
variable {N p wo inp cs w u ir M K0 : Nat} {s pl : Int32} {ty mn nu cd : Nat → Int32} {E Q : Nat → Nat → Nat} {V : Nat → Nat → Int32} {nL lc : Nat} {lk : Nat → Nat} {hd : Nat → Int32}
theorem WDT.fr {un kp : Nat} {Nm : Nat → Nat → List Nat} {Pv : Nat → Nat → Int32} {A B A2 B2 : Hp} (h : WDT p cs w M ty mn nu cd E Nm Pv Q un A B) (hE : WE E) (hA : same (SWA kp) A A2) (hB : same (SWB kp) B B2) : WDT p cs w M ty mn nu cd E Nm Pv Q un A2 B2 := by
  obtain ⟨hGA, hGB, hT, hun, b3, b9, hW, hP⟩ := h
  have hu := lU_le hun
  have hw := lT_le hT.2.2.2.1
  have hp := hT.2.2.1
  have dB : ∀ a f, un ≤ a → a ≤ un + 9 → B2.D a f = B.D a f := fun a f y1 y2 => hB.1 a f (by unfold SWB; omega)
  exact ⟨hA.gr hGA, hB.gr hGB, hT.gw hE hGA hGB (hGA.s (a := 118) rfl) hA.gw hB.gw (fun a f y => by unfold SWA at y; omega) (fun a f y => by unfold SWB at y; omega), hun, by rw [hB.2.1]; exact b3, by rw [hB.2.1]; exact b9, hW.fr (fun a f y1 y2 => hA.1 a f (by unfold SWA; omega)) dB, fun k hk => by rw [dB _ _ (by omega) (by omega)]; exact hP k hk⟩
/-- a component's members -/
theorem sh_in {un kp c : Nat} {Nm : Nat → Nat → List Nat} {Pv : Nat → Nat → Int32} {kqA kqB : Int32 → Hp → Option (Unit × Hp)} (hE : WE E) (hN : 300 ≤ N) (hc : c < E 4 0) : ∀ j i nA nB len A B, i + j = E 5 (c + 1) → j < nA → j < nB → len + j ≤ 58000 → WDT p cs w M ty mn nu cd E Nm Pv Q un A B → WTR kp len A B → ∃ A2 B2, B_Store_writeShapes_34 N 131 (p + 70) kqA nA (nI c) (nI i) A = kqA (nI (c + 1)) A2 ∧ B_M_putsWorld_75 N 517 kqB nB (nI c) (nI i) B = kqB (nI (c + 1)) B2 ∧ WDT p cs w M ty mn nu cd E Nm Pv Q un A2 B2 ∧ WTR kp (len + j) A2 B2 ∧ same (SWA kp) A A2 ∧ same (SWB kp) B B2 := by
  have e4 : E 4 0 ≤ 16 := hE.1
  have e5 := hE.2.2.1 c hc
  have e48 := hE.2.2.2.1
  intro j
  induction j with
  | zero =>
    intro i nA nB len A B hi hA hB hl h hw
    obtain ⟨nA, rfl⟩ : ∃ y, nA = y + 1 := ⟨nA - 1, by omega⟩
    obtain ⟨nB, rfl⟩ : ∃ y, nB = y + 1 := ⟨nB - 1, by omega⟩
    have h' := h
    obtain ⟨hGA, hGB, ⟨⟨-, ⟨a3, a5, a6, -⟩, -⟩, ⟨-, ⟨b16, b12, b13, -⟩, -⟩, hp, hwT, -⟩, hun, b3, b9, hW, hP⟩ := h
    have P := gr_P hGA hp
    have T := gr_T hGB w hwT
    refine ⟨A, B, ?_, ?_, h', hw, same.rf, same.rf⟩
    · rw [B_Store_writeShapes_34, ck_t (PrA_2 P), rf_t (PcP_2 P), ar_t (PcA_2 P), nI_1, rdI (show c + 1 < 17 by omega) (by decide), a5 (c + 1) (by omega), if_pos (nI_le (by omega) (by omega))]
    · rw [B_M_putsWorld_75, ck_t (rS_517 hGB), rf_t b3, ck_t (TS T), rf_t (TP_18 T), ar_t (TA_18 T), nI_1, rdI (show c + 1 < 17 by omega) (by decide), b12 (c + 1) (by omega), if_pos (nI_le (by omega) (by omega))]
  | succ j ih =>
    intro i nA nB len A B hi hA hB hl h hw
    obtain ⟨nA, rfl⟩ : ∃ y, nA = y + 1 := ⟨nA - 1, by omega⟩
    obtain ⟨nB, rfl⟩ : ∃ y, nB = y + 1 := ⟨nB - 1, by omega⟩
    have h' := h
    obtain ⟨hGA, hGB, ⟨⟨-, ⟨a3, a5, a6, -⟩, -⟩, ⟨-, ⟨b16, b12, b13, -⟩, -⟩, hp, hwT, -⟩, hun, b3, b9, hW, hP⟩ := h
    have P := gr_P hGA hp
    have T := gr_T hGB w hwT
    have hM := PcM P i (by omega)
    obtain ⟨A1, B1, r1, r2, r3, r4, r5⟩ := p1_jo (N := N) (v := nI (E 6 i)) hN hGA hGB hw (by omega)
    obtain ⟨A2, B2, s1, s2, s3, s4, s5, s6⟩ := ih (i + 1) nA nB (len + 1) A1 B1 (by omega) (by omega) (by omega) (by omega) (h'.fr hE r4 r5) r3
    refine ⟨A2, B2, ?_, ?_, s3, by rw [show len + (j + 1) = len + 1 + j by omega]; exact s4, r4.tr s5, r5.tr s6⟩
    · rw [B_Store_writeShapes_34, ck_t (PrA_2 P), rf_t (PcP_2 P), ar_t (PcA_2 P), nI_1, rdI (show c + 1 < 17 by omega) (by decide), a5 (c + 1) (by omega), if_neg (nI_ge (by omega) (by omega)), rf_t (PcP_1 P), ar_t (PcA_1 P), rdP (show i < 48 by omega) (by decide), rf_t hM.1, ck_t hM.2, bnd_t, (a6 i (by omega)).2, ck_t (rS_131 hGA), bC_t r1, nI_1]
      exact s1
    · rw [B_M_putsWorld_75, ck_t (rS_517 hGB), rf_t b3, ck_t (TS T), rf_t (TP_18 T), ar_t (TA_18 T), nI_1, rdI (show c + 1 < 17 by omega) (by decide), b12 (c + 1) (by omega), if_neg (nI_ge (by omega) (by omega)), rf_t b3, ck_t (TS T), rf_t (TP_19 T), ar_t (TA_19 T), rdI (show i < 48 by omega) (by decide), (b13 i (by omega)).2, bC_t r2, nI_1]
      exact s2
theorem sh_out {un kp : Nat} {Nm : Nat → Nat → List Nat} {Pv : Nat → Nat → Int32} (hE : WE E) (hN : 300 ≤ N) : ∀ j c nA nB len A B, c + j = E 4 0 → j < nA → len + j + (E 5 (E 4 0) - E 5 c) ≤ 58000 → WDT p cs w M ty mn nu cd E Nm Pv Q un A B → WTR kp len A B → ∃ A2 B2, B_Store_writeShapes_10 N 131 (p + 70) nA (nI c) A = some ((), A2) ∧ B_M_putsWorld_28 N 517 (nB + 1 + j) (nI c) B = B_M_putsWorld_28 N 517 (nB + 1) (nI (E 4 0)) B2 ∧ WDT p cs w M ty mn nu cd E Nm Pv Q un A2 B2 ∧ WTR kp (len + j + (E 5 (E 4 0) - E 5 c)) A2 B2 ∧ same (SWA kp) A A2 ∧ same (SWB kp) B B2 := by
  have e4 : E 4 0 ≤ 16 := hE.1
  have e48 := hE.2.2.2.1
  intro j
  induction j with
  | zero =>
    intro c nA nB len A B hi hA hl h hw
    obtain ⟨nA, rfl⟩ : ∃ y, nA = y + 1 := ⟨nA - 1, by omega⟩
    have h' := h
    obtain ⟨hGA, hGB, ⟨⟨-, ⟨a3, a5, a6, -⟩, -⟩, ⟨-, ⟨b16, b12, b13, -⟩, -⟩, hp, hwT, -⟩, hun, b3, b9, hW, hP⟩ := h
    have P := gr_P hGA hp
    have hc : c = E 4 0 := by omega
    subst hc
    refine ⟨A, B, ?_, rfl, h', by rw [Nat.sub_self]; exact hw, same.rf, same.rf⟩
    rw [B_Store_writeShapes_10, ck_t (PrA_2 P), bnd_t, a3, if_pos (nI_le (by omega) (by omega))]
  | succ j ih =>
    intro c nA nB len A B hi hA hl h hw
    obtain ⟨nA, rfl⟩ : ∃ y, nA = y + 1 := ⟨nA - 1, by omega⟩
    have h' := h
    obtain ⟨hGA, hGB, ⟨⟨-, ⟨a3, a5, a6, -⟩, -⟩, ⟨-, ⟨b16, b12, b13, -⟩, -⟩, hp, hwT, -⟩, hun, b3, b9, hW, hP⟩ := h
    have P := gr_P hGA hp
    have T := gr_T hGB w hwT
    obtain ⟨m1, m2, m3⟩ := hE.2.2.1 c (by omega)
    obtain ⟨A1, B1, r1, r2, r3, r4, r5⟩ := p1_jo (N := N) (v := nI (E 5 (c + 1) - E 5 c)) hN hGA hGB hw (by omega)
    have h1 := h'.fr hE r4 r5
    have h1' := h1
    obtain ⟨hGA1, hGB1, ⟨⟨-, ⟨a31, a51, a61, -⟩, -⟩, ⟨-, ⟨b161, b121, b131, -⟩, -⟩, -⟩, -, b31, b91, -⟩ := h1
    have P1 := gr_P hGA1 hp
    have T1 := gr_T hGB1 w hwT
    obtain ⟨A2, B2, s1, s2, s3, s4, s5, s6⟩ := sh_in (N := N) (kqA := fun l2 H => B_Store_writeShapes_10 N 131 (p + 70) nA l2 H) (kqB := fun l1 H => B_M_putsWorld_28 N 517 (nB + 1 + j) l1 H) hE hN (show c < E 4 0 by omega) (E 5 (c + 1) - E 5 c) (E 5 c) N N (len + 1) A1 B1 (by omega) (by omega) (by omega) (by omega) h1' r3
    obtain ⟨A3, B3, t1, t2, t3, t4, t5, t6⟩ := ih (c + 1) nA nB (len + 1 + (E 5 (c + 1) - E 5 c)) A2 B2 (by omega) (by omega) (by omega) s3 s4
    refine ⟨A3, B3, ?_, ?_, t3, by rw [show len + (j + 1) + (E 5 (E 4 0) - E 5 c) = len + 1 + (E 5 (c + 1) - E 5 c) + j + (E 5 (E 4 0) - E 5 (c + 1)) by omega]; exact t4, (r4.tr s5).tr t5, (r5.tr s6).tr t6⟩
    · rw [B_Store_writeShapes_10, ck_t (PrA_2 P), bnd_t, a3, if_neg (nI_ge (by omega) (by omega)), bC_t (ev_sizeOf (fr := p + 137) (R := 17) (PrA_2 P) (PcP_2 P) (PcA_2 P) (by decide) a3 (by omega) (show c < E 4 0 by omega) (a5 c (by omega)) (a5 (c + 1) (by omega)) m1), ck_t (rS_131 hGA), bC_t r1, rf_t (PcP_2 P1), ar_t (PcA_2 P1), rdI (show c < 17 by omega) (by decide), a51 c (by omega), s1]
      exact t1
    · rw [show nB + 1 + (j + 1) = nB + 1 + j + 1 by omega, B_M_putsWorld_28, ck_t (rS_517 hGB), rf_t b3, ck_t (TS T), bnd_t, b16, if_neg (nI_ge (by omega) (by omega)), rf_t b3, ck_t (TS T), rf_t (TP_18 T), ar_t (TA_18 T), nI_1, rdI (show c + 1 < 17 by omega) (by decide), b12 (c + 1) (by omega), rf_t b3, ck_t (TS T), rf_t (TP_18 T), ar_t (TA_18 T), rdI (show c < 17 by omega) (by decide), b12 c (by omega), nI_dif m1, bC_t r2, rf_t b31, ck_t (TS T1), rf_t (TP_18 T1), ar_t (TA_18 T1), rdI (show c < 17 by omega) (by decide), b121 c (by omega), s2]
      exact t2
/-- an event's members -/
theorem se_in {un kp e : Nat} {Nm : Nat → Nat → List Nat} {Pv : Nat → Nat → Int32} {kqA kqB : Int32 → Hp → Option (Unit × Hp)} (hE : WE E) (hN : 300 ≤ N) (he : e < E 9 0) : ∀ j i nA nB len A B, i + j = E 10 e → j < nA → j < nB → len + j ≤ 58000 → WDT p cs w M ty mn nu cd E Nm Pv Q un A B → WTR kp len A B → ∃ A2 B2, B_Store_writeShapes_34 N 131 (p + 138) kqA nA (nI e) (nI (E 11 e + i)) A = kqA (nI (e + 1)) A2 ∧ B_M_putsWorld_157 N 517 kqB nB (nI e) (nI i) B = kqB (nI (e + 1)) B2 ∧ WDT p cs w M ty mn nu cd E Nm Pv Q un A2 B2 ∧ WTR kp (len + j) A2 B2 ∧ same (SWA kp) A A2 ∧ same (SWB kp) B B2 := by
  have e8 := hE.2.2.2.2.2.1
  obtain ⟨x1, x2, x3⟩ := hE.2.2.2.2.2.2.2.1 e he
  intro j
  induction j with
  | zero =>
    intro i nA nB len A B hi hA hB hl h hw
    obtain ⟨nA, rfl⟩ : ∃ y, nA = y + 1 := ⟨nA - 1, by omega⟩
    obtain ⟨nB, rfl⟩ : ∃ y, nB = y + 1 := ⟨nB - 1, by omega⟩
    have h' := h
    obtain ⟨hGA, hGB, ⟨⟨-, -, ⟨a3, a11, a12, -⟩, -⟩, ⟨-, -, ⟨b21, b10, b17, -⟩, -⟩, hp, hwT, -⟩, hun, b3, b9, hW, hP⟩ := h
    have P := gr_P hGA hp
    have T := gr_T hGB w hwT
    refine ⟨A, B, ?_, ?_, h', hw, same.rf, same.rf⟩
    · rw [B_Store_writeShapes_34, ck_t (PrA_3 P), rf_t (PeP_2 P), ar_t (PeA_2 P), nI_1, rdI (show e + 1 < 9 by omega) (by decide), a11 (e + 1) (by omega), if_pos (nI_le (by omega) (by omega))]
    · rw [B_M_putsWorld_157, ck_t (rS_517 hGB), rf_t b3, ck_t (TS T), rf_t (TP_23 T), ar_t (TA_23 T), rdI (show e < 8 by omega) (by decide), b10 e he, if_pos (nI_le (by omega) (by omega)), nI_1]
  | succ j ih =>
    intro i nA nB len A B hi hA hB hl h hw
    obtain ⟨nA, rfl⟩ : ∃ y, nA = y + 1 := ⟨nA - 1, by omega⟩
    obtain ⟨nB, rfl⟩ : ∃ y, nB = y + 1 := ⟨nB - 1, by omega⟩
    have h' := h
    obtain ⟨hGA, hGB, ⟨⟨-, -, ⟨a3, a11, a12, -⟩, -⟩, ⟨-, -, ⟨b21, b10, b17, -⟩, -⟩, hp, hwT, -⟩, hun, b3, b9, hW, hP⟩ := h
    have P := gr_P hGA hp
    have T := gr_T hGB w hwT
    have hM := PeM P (E 11 e + i) (by omega)
    obtain ⟨A1, B1, r1, r2, r3, r4, r5⟩ := p1_jo (N := N) (v := nI (E 12 (4 * e + i))) hN hGA hGB hw (by omega)
    obtain ⟨A2, B2, s1, s2, s3, s4, s5, s6⟩ := ih (i + 1) nA nB (len + 1) A1 B1 (by omega) (by omega) (by omega) (by omega) (h'.fr hE r4 r5) r3
    refine ⟨A2, B2, ?_, ?_, s3, by rw [show len + (j + 1) = len + 1 + j by omega]; exact s4, r4.tr s5, r5.tr s6⟩
    · rw [B_Store_writeShapes_34, ck_t (PrA_3 P), rf_t (PeP_2 P), ar_t (PeA_2 P), nI_1, rdI (show e + 1 < 9 by omega) (by decide), a11 (e + 1) (by omega), if_neg (nI_ge (by omega) (by omega)), rf_t (PeP_1 P), ar_t (PeA_1 P), rdP (show E 11 e + i < 32 by omega) (by decide), rf_t hM.1, ck_t hM.2, bnd_t, (a12 e i he (by omega)).2, ck_t (rS_131 hGA), bC_t r1, nI_1]
      exact s1
    · rw [B_M_putsWorld_157, ck_t (rS_517 hGB), rf_t b3, ck_t (TS T), rf_t (TP_23 T), ar_t (TA_23 T), rdI (show e < 8 by omega) (by decide), b10 e he, if_neg (nI_ge (by omega) (by omega)), rf_t b3, ck_t (TS T), rf_t (TP_24 T), ar_t (TA_24 T), show (4 : Int32) * nI e + nI i = nI (4 * e + i) from nI_ma 4 e i, rdI (show 4 * e + i < 32 by omega) (by decide), (b17 e i he (by omega)).2, bC_t r2, nI_1]
      exact s2
theorem se_out {un kp : Nat} {Nm : Nat → Nat → List Nat} {Pv : Nat → Nat → Int32} (hE : WE E) (hN : 300 ≤ N) : ∀ j e nA nB len A B, e + j = E 9 0 → j < nA → len + 5 * j ≤ 58000 → WDT p cs w M ty mn nu cd E Nm Pv Q un A B → WTR kp len A B → ∃ A2 B2 len2, len2 ≤ len + 5 * j ∧ B_Store_writeShapes_10 N 131 (p + 138) nA (nI e) A = some ((), A2) ∧ B_M_putsWorld_130 N 517 (nB + 1 + j) (nI e) B = B_M_putsWorld_130 N 517 (nB + 1) (nI (E 9 0)) B2 ∧ WDT p cs w M ty mn nu cd E Nm Pv Q un A2 B2 ∧ WTR kp len2 A2 B2 ∧ same (SWA kp) A A2 ∧ same (SWB kp) B B2 := by
  have e8 := hE.2.2.2.2.2.1
  intro j
  induction j with
  | zero =>
    intro e nA nB len A B hi hA hl h hw
    obtain ⟨nA, rfl⟩ : ∃ y, nA = y + 1 := ⟨nA - 1, by omega⟩
    have h' := h
    obtain ⟨hGA, hGB, ⟨⟨-, -, ⟨a3, a11, a12, -⟩, -⟩, ⟨-, -, ⟨b21, b10, b17, -⟩, -⟩, hp, hwT, -⟩, hun, b3, b9, hW, hP⟩ := h
    have P := gr_P hGA hp
    have hc : e = E 9 0 := by omega
    subst hc
    refine ⟨A, B, len, by omega, ?_, rfl, h', hw, same.rf, same.rf⟩
    rw [B_Store_writeShapes_10, ck_t (PrA_3 P), bnd_t, a3, if_pos (nI_le (by omega) (by omega))]
  | succ j ih =>
    intro e nA nB len A B hi hA hl h hw
    obtain ⟨nA, rfl⟩ : ∃ y, nA = y + 1 := ⟨nA - 1, by omega⟩
    have h' := h
    obtain ⟨hGA, hGB, ⟨⟨-, -, ⟨a3, a11, a12, -⟩, -⟩, ⟨-, -, ⟨b21, b10, b17, -⟩, -⟩, hp, hwT, -⟩, hun, b3, b9, hW, hP⟩ := h
    have P := gr_P hGA hp
    have T := gr_T hGB w hwT
    obtain ⟨x1, x2, x3⟩ := hE.2.2.2.2.2.2.2.1 e (by omega)
    obtain ⟨A1, B1, r1, r2, r3, r4, r5⟩ := p1_jo (N := N) (v := nI (E 10 e)) hN hGA hGB hw (by omega)
    have h1 := h'.fr hE r4 r5
    have h1' := h1
    obtain ⟨hGA1, hGB1, ⟨⟨-, -, ⟨a31, a111, a121, -⟩, -⟩, -⟩, -⟩ := h1
    have P1 := gr_P hGA1 hp
    obtain ⟨A2, B2, s1, s2, s3, s4, s5, s6⟩ := se_in (N := N) (kqA := fun l2 H => B_Store_writeShapes_10 N 131 (p + 138) nA l2 H) (kqB := fun l1 H => B_M_putsWorld_130 N 517 (nB + 1 + j) l1 H) hE hN (show e < E 9 0 by omega) (E 10 e) 0 N N (len + 1) A1 B1 (by omega) (by omega) (by omega) (by omega) h1' r3
    obtain ⟨A3, B3, len3, t0, t1, t2, t3, t4, t5, t6⟩ := ih (e + 1) nA nB (len + 1 + E 10 e) A2 B2 (by omega) (by omega) (by omega) s3 s4
    refine ⟨A3, B3, len3, by omega, ?_, ?_, t3, t4, (r4.tr s5).tr t5, (r5.tr s6).tr t6⟩
    · rw [B_Store_writeShapes_10, ck_t (PrA_3 P), bnd_t, a3, if_neg (nI_ge (by omega) (by omega)), bC_t (ev_sizeOf (fr := p + 181) (R := 9) (PrA_3 P) (PeP_2 P) (PeA_2 P) (by decide) a3 (by omega) (show e < E 9 0 by omega) (a11 e (by omega)) (a11 (e + 1) (by omega)) (by omega)), show E 11 (e + 1) - E 11 e = E 10 e by omega, ck_t (rS_131 hGA), bC_t r1, rf_t (PeP_2 P1), ar_t (PeA_2 P1), rdI (show e < 9 by omega) (by decide), a111 e (by omega), show nI (E 11 e) = nI (E 11 e + 0) from rfl, s1]
      exact t1
    · rw [show nB + 1 + (j + 1) = nB + 1 + j + 1 by omega, B_M_putsWorld_130, ck_t (rS_517 hGB), rf_t b3, ck_t (TS T), bnd_t, b21, if_neg (nI_ge (by omega) (by omega)), rf_t b3, ck_t (TS T), rf_t (TP_23 T), ar_t (TA_23 T), rdI (show e < 8 by omega) (by decide), b10 e (by omega), bC_t r2, show (0 : Int32) = nI 0 from rfl, s2]
      exact t2
end Par
