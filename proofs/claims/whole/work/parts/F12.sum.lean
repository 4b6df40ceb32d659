/-! ===== the calls sum, save ===== -/
/-- both OUTs hold the same -/
def OUTR (A B : Hp) : Prop := ∃ T, T ≤ 58000 ∧ A.D 131 1 = nI T ∧ B.D 517 22 = nI T ∧ ∀ i, i < T → A.D 132 i = B.D 622 i
section Par
variable {N p wo inp cs w u ir M K0 : Nat} {s pl : Int32} {ty mn nu cd : Nat → Int32} {E Q : Nat → Nat → Nat} {V : Nat → Nat → Int32} {nL lc : Nat} {lk : Nat → Nat} {hd : Nat → Int32}
theorem write_jo {un kp : Nat} {kI x : Int32} {Nm : Nat → Nat → List Nat} {Pv : Nat → Nat → Int32} {A0 A B : Hp} (hE : WE E) (hN : 300 ≤ N) (hG0 : Gr A0) (hA : A0.sD 131 1 x = A) (h : WDT p cs w M ty mn nu cd E Nm Pv Q un A B) (hw : WTR kp 0 A B) : ∃ A2 B2 len, len ≤ 58000 ∧ B_Store_write_23 N 131 p 12 kI 131 x A0 = some (A2.D 131 4, A2) ∧ F_M_putsWorld N 517 B = some ((), B2) ∧ WTR kp len A2 B2 ∧ same (SWA kp) A A2 ∧ same (SWB kp) B B2 := by
  have e4 : E 4 0 ≤ 16 := hE.1
  have e48 := hE.2.2.2.1
  have e50 := hE.2.1
  have e8 := hE.2.2.2.2.2.1
  have hp := h.2.2.1.2.2.1
  have hwT := h.2.2.1.2.2.2.1
  have hun := h.2.2.2.1
  have hu2 := lU_le hun
  obtain ⟨A1, B1, a1, a2, a3, a4, a5⟩ := p1_jo (N := N) (v := 87) hN h.1 h.2.1 hw (by omega)
  have h1 := h.fr hE a4 a5
  obtain ⟨A2, B2, b1, b2, b3, b4, b5⟩ := p1_jo (N := N) (v := 69) hN h1.1 h1.2.1 a3 (by omega)
  have h2 := h1.fr hE b4 b5
  obtain ⟨A3, B3, c1, c2, c3, c4, c5⟩ := p1_jo (N := N) (v := nI (E 4 0)) hN h2.1 h2.2.1 b3 (by omega)
  have h3 := h2.fr hE c4 c5
  obtain ⟨N1, hN1⟩ : ∃ y, N = y + 1 + E 4 0 := ⟨N - 1 - E 4 0, by omega⟩
  obtain ⟨A4, B4, d1, d2, d3, d4, d5, d6⟩ := sh_out (N := N) hE hN (E 4 0) 0 N N1 (0 + 1 + 1 + 1) A3 B3 (by omega) (by omega) (by omega) h3 c3
  obtain ⟨A5, B5, f1, f2, f3, f4, f5⟩ := p1_jo (N := N) (v := nI (E 9 0)) hN d3.1 d3.2.1 d4 (by omega)
  have h5 := d3.fr hE f4 f5
  obtain ⟨N2, hN2⟩ : ∃ y, N = y + 1 + E 9 0 := ⟨N - 1 - E 9 0, by omega⟩
  obtain ⟨A6, B6, l6, g0, g1, g2, g3, g4, g5, g6⟩ := se_out (N := N) hE hN (E 9 0) 0 N N2 _ A5 B5 (by omega) (by omega) (by omega) h5 f3
  obtain ⟨A7, B7, i1, i2, i3, i4, i5⟩ := p4_jo (N := N) (v := A6.D 12 0) hN g3.1 g3.2.1 g4 (by omega)
  have h7 := g3.fr hE i4 i5
  obtain ⟨A8, B8, j1, j2, j3, j4, j5⟩ := p4_jo (N := N) (v := A7.D 12 1) hN h7.1 h7.2.1 i3 (by omega)
  have h8 := h7.fr hE j4 j5
  obtain ⟨A9, B9, k1, k2, k3, k4, k5⟩ := p4_jo (N := N) (v := A8.D 12 2) hN h8.1 h8.2.1 j3 (by omega)
  have h9 := h8.fr hE k4 k5
  obtain ⟨AA, BA, m1, m2, m3, m4, m5⟩ := p4_jo (N := N) (v := A9.D 12 3) hN h9.1 h9.2.1 k3 (by omega)
  have hA' := h9.fr hE m4 m5
  obtain ⟨N3, hN3⟩ : ∃ y, N = y + 1 + 256 := ⟨N - 1 - 256, by omega⟩
  obtain ⟨AB, BB, lB, n0, n1, n2, n3, n4, n5, n6⟩ := pl_lp (N := N) (kI := kI) hE hN 256 0 N3 N3 _ AA BA (by omega) (by omega) hA' m3
  have w63 := n3.2.2.2.2.2.2.1.1.2.2.2.2.2.1
  obtain ⟨AC, AD, BD, o1, o2, o3, o4, o5, o6, o7⟩ := p2_jo (N := N) (v := nI (Q 5 2)) hN n3.1 n3.2.1 n4 (by omega)
  have hD := n3.fr hE o6 o7
  have hGC := o5.gr n3.1
  obtain ⟨AE, BE, lE, q0, q1, q2, q3, q4, q5, q6⟩ := pe_out (N := N) hE hN (Q 5 2) 0 N N _ AD BD (by omega) (by omega) (by omega) (by omega) hD o4
  refine ⟨AE, BE, lE, by omega, ?_, ?_, q4, ((((((((((((a4.tr b4).tr c4).tr d5).tr f4).tr g5).tr i4).tr j4).tr k4).tr m4).tr n5).tr o6).tr q5), ((((((((((((a5.tr b5).tr c5).tr d6).tr f5).tr g6).tr i5).tr j5).tr k5).tr m5).tr n6).tr o7).tr q6)⟩
  · have P2 := gr_P h2.1 hp
    have P4 := gr_P d3.1 hp
    have PB := gr_P n3.1 hp
    have t2 := h2.2.2.1.1.2.1.1
    have t4 := d3.2.2.1.1.2.2.1.1
    have e1 : F_Store_writeShapes N 131 (p + 70) A2 = some ((), A4) := by
      unfold F_Store_writeShapes
      rw [ck_t (PrA_2 P2), bnd_t, t2, ck_t (rS_131 h2.1), bC_t c1]
      exact d1
    have e2 : F_Store_writeShapes N 131 (p + 138) A4 = some ((), A6) := by
      unfold F_Store_writeShapes
      rw [ck_t (PrA_3 P4), bnd_t, t4, ck_t (rS_131 d3.1), bC_t f1]
      exact g1
    have e3 : F_Store_writeEvents N 131 (p + 138) 12 AB = some ((), AE) := by
      have wc : AC.D 12 13 = nI (Q 5 2) := by rw [o5.1 _ _ (by unfold SWA; omega)]; exact w63.1
      unfold F_Store_writeEvents
      rw [ck_t (rA_11_0 n3.1), bnd_t, w63.1, ck_t (rS_131 n3.1), bC_t o1, bnd_t, wc, bC_t o2]
      exact q1
    have e89 : B_Store_write_89 N 131 p 12 kI N (nI 0) AA = some (AE.D 131 4, AE) := by
      have : B_Store_write_89 N 131 p 12 kI (N3 + 1 + 256) (nI 0) AA = some (AE.D 131 4, AE) := by
        rw [n1, B_Store_write_89, if_pos (show (256 : Int32) ≤ nI 256 by decide), ck_t (PrS PB), rf_t (PrP_3 PB), ck_t (rS_131 n3.1), bC_t e3, bnd_t]
      rw [← hN3] at this
      exact this
    unfold B_Store_write_23
    rw [ck_t (rS_131 hG0), bnd_t, hA, ck_t (rS_131 h.1), bC_t a1, bC_t b1, ck_t (PrS P2), rf_t (PrP_2 P2), bC_t e1, rf_t (PrP_3 P4), bC_t e2, ck_t (rA_11_0 g3.1), bnd_t, bC_t i1, bnd_t, bC_t j1, bnd_t, bC_t k1, bnd_t, bC_t m1]
    exact e89
  · have T2 := gr_T h2.2.1 w hwT
    have T4 := gr_T d3.2.1 w hwT
    have T6 := gr_T g3.2.1 w hwT
    have u6 := g3.2.2.2.2.2.2.1.2
    have u7 := h7.2.2.2.2.2.2.1.2
    have u8 := h8.2.2.2.2.2.2.1.2
    have u9 := h9.2.2.2.2.2.2.1.2
    have e250 : B_M_putsWorld_250 N 517 N (nI 0) BA = some ((), BE) := by
      have : B_M_putsWorld_250 N 517 (N3 + 1 + 256) (nI 0) BA = some ((), BE) := by
        rw [n2, B_M_putsWorld_250, if_pos (show (256 : Int32) ≤ nI 256 by decide), ck_t (rS_517 n3.2.1), rf_t n3.2.2.2.2.2.1, ck_t (US (gr_U n3.2.1 un hun)), bnd_t, w63.2.1, bC_t o3]
        exact q2
      rw [← hN3] at this
      exact this
    have e130 : B_M_putsWorld_130 N 517 N (nI 0) B5 = some ((), BE) := by
      have : B_M_putsWorld_130 N 517 (N2 + 1 + E 9 0) (nI 0) B5 = some ((), BE) := by
        rw [g2, B_M_putsWorld_130, ck_t (rS_517 g3.2.1), rf_t g3.2.2.2.2.1, ck_t (TS T6), bnd_t, g3.2.2.1.2.1.2.2.1.1, if_pos (nI_le (Nat.le_refl _) (by omega)), rf_t g3.2.2.2.2.2.1, ck_t (US (gr_U g3.2.1 un hun)), bnd_t, ← u6.1, bC_t i2, rf_t h7.2.2.2.2.2.1, ck_t (US (gr_U h7.2.1 un hun)), bnd_t, ← u7.2.1, bC_t j2, rf_t h8.2.2.2.2.2.1, ck_t (US (gr_U h8.2.1 un hun)), bnd_t, ← u8.2.2.2.1, bC_t k2, rf_t h9.2.2.2.2.2.1, ck_t (US (gr_U h9.2.1 un hun)), bnd_t, ← u9.2.2.1, bC_t m2]
        exact e250
      rw [← hN2] at this
      exact this
    have e28 : B_M_putsWorld_28 N 517 N (nI 0) B3 = some ((), BE) := by
      have : B_M_putsWorld_28 N 517 (N1 + 1 + E 4 0) (nI 0) B3 = some ((), BE) := by
        rw [d2, B_M_putsWorld_28, ck_t (rS_517 d3.2.1), rf_t d3.2.2.2.2.1, ck_t (TS T4), bnd_t, d3.2.2.1.2.1.2.1.1, if_pos (nI_le (Nat.le_refl _) (by omega)), rf_t d3.2.2.2.2.1, ck_t (TS T4), bnd_t, d3.2.2.1.2.1.2.2.1.1, bC_t f2]
        exact e130
      rw [← hN1] at this
      exact this
    unfold F_M_putsWorld
    rw [ck_t (rS_517 h.2.1), bC_t a2, bC_t b2, rf_t h2.2.2.2.2.1, ck_t (TS T2), bnd_t, h2.2.2.1.2.1.2.1.1, bC_t c2]
    exact e28
/-- the call sum -/
theorem sum_jo {S : Nat → Nat} {b t0 la z us un c n : Nat} {Nm : Nat → Nat → List Nat} {Pv : Nat → Nat → Int32} {A B : Hp} (h : PLI N p cs w M ty mn nu cd E Nm Pv S b t0 A la z B us un c n) (hE : WE E) (hN : 300 ≤ N) (hpr : A.P 0 4 = .ref p) : ∃ r A2 B2, F_W_sum N 0 A = some (r, A2) ∧ F_M_sum N 517 B = some (r, B2) ∧ PLI N p cs w M ty mn nu cd E Nm Pv S b t0 A2 la z B2 us un c n ∧ same (fun a f => a = 131) A A2 ∧ A2.D 131 1 = A.D 131 1 ∧ same (fun a f => a = 517 ∧ (f = 0 ∨ f = 23 ∨ f = 24)) B B2 ∧ B2.D 517 24 = 0 := by
  have hGA := h.1.1
  have hGB := h.1.2.1
  have sA : same (fun a f => a = 131) A (((A.sD 131 3 0).sD 131 4 0).sD 131 1 (A.D 131 1)) := ((same.rf.sD (by rfl)).sD (by rfl)).sD (by rfl)
  have sB : same (fun a f => a = 517 ∧ (f = 0 ∨ f = 23 ∨ f = 24)) B (((B.sD 517 0 0).sD 517 24 1).sD 517 23 0) := ((same.rf.sD ⟨rfl, .inl rfl⟩).sD ⟨rfl, .inr (.inr rfl)⟩).sD ⟨rfl, .inr (.inl rfl)⟩
  have h1 := h.fr hE (sA.mono fun a f y => by unfold PFA; omega) (sB.mono fun a f y => by unfold PFB; omega)
  have w1 : WTR 0 0 (((A.sD 131 3 0).sD 131 4 0).sD 131 1 (A.D 131 1)) (((B.sD 517 0 0).sD 517 24 1).sD 517 23 0) := ⟨.inl rfl, by rw [rdf (by decide), rdf (by decide), rds]; rfl, by rw [rdf (by decide), rds]; rfl, fun _ => by rw [rdf (by decide), rds, rds], fun y => absurd y (by decide)⟩
  have x1 : (((A.sD 131 3 0).sD 131 4 0).sD 131 1 (A.D 131 1)).D 131 1 = A.D 131 1 := rds
  have G2 : Gr ((A.sD 131 3 0).sD 131 4 0) := hGA.sD.sD
  have eA : F_W_sum N 0 A = bC (B_Store_write_23 N 131 p 12 0 131 (A.D 131 1) ((A.sD 131 3 0).sD 131 4 0)) fun v13 H14 => some (v13, H14) := by
    unfold F_W_sum F_Store_write
    rw [ck_t (rS_0 hGA), rf_t (rP_0_3 hGA), rf_t hpr, rf_t (rP_0_2 hGA), ck_t (rS_11 hGA), rf_t (rP_11_0 hGA), ck_t (rS_131 hGA), ck_t (rS_131 hGA), ck_t (.inl rfl), bnd_t, bnd_t, if_pos rfl, bnd_t, rdf (by decide), rdf (by decide)]
  have eB : F_M_sum N 517 B = bC (F_M_putsWorld N 517 (((B.sD 517 0 0).sD 517 24 1).sD 517 23 0)) fun v6 H7 => bnd (H7.sD 517 24 (0 : Int32)) fun H8 => bnd ((H8.D 517 23)) fun x9 => some (x9, H8) := by
    unfold F_M_sum
    rw [ck_t (rS_517 hGB), bnd_t, bnd_t, bnd_t]
  have hd := h1
  obtain ⟨⟨hGA1, hGB1, hT1, -⟩, ⟨-, hun, -, -, b9, b3⟩, -, ⟨Qn, y1, y2, y3⟩, -⟩ := hd
  obtain ⟨A2, B2, len, r0, r1, r2, r3, r4, r5⟩ := write_jo (N := N) (kI := 0) hE hN G2 rfl ⟨hGA1, hGB1, hT1, hun, b3, b9, y1, y2.2.2⟩ w1
  have s5 : same (fun a f => a = 517 ∧ f = 24) B2 (B2.sD 517 24 0) := same.rf.sD ⟨rfl, rfl⟩
  have h2 := h1.fr hE (r4.mono fun a f y => y.pf) (r5.mono fun a f y => y.pf)
  refine ⟨A2.D 131 4, A2, B2.sD 517 24 0, ?_, ?_, h2.fr hE same.rf (s5.mono fun a f y => by unfold PFB; omega), sA.tr (r4.mono fun a f y => by unfold SWA at y; omega), by rw [r4.1 _ _ (by unfold SWA; omega)]; exact x1, (sB.tr (r5.mono fun a f y => by unfold SWB at y; omega)).tr (s5.mono fun a f y => by omega), rds⟩
  · rw [eA, bC_t r1]
  · rw [eB, bC_t r2, bnd_t, bnd_t, rdf (by decide), ← r3.2.2.2.1 rfl]
/-- the call save -/
theorem save_jo {S : Nat → Nat} {b t0 la z us un c n : Nat} {Nm : Nat → Nat → List Nat} {Pv : Nat → Nat → Int32} {A B : Hp} (h : PLI N p cs w M ty mn nu cd E Nm Pv S b t0 A la z B us un c n) (hE : WE E) (hN : 300 ≤ N) (hpr : A.P 0 4 = .ref p) (h24 : B.D 517 24 = 0) (hO : OUTR A B) : ∃ r A2 B2, F_W_save N 0 A = some (r, A2) ∧ F_M_save N 517 B = some (r, B2) ∧ PLI N p cs w M ty mn nu cd E Nm Pv S b t0 A2 la z B2 us un c n ∧ same (fun a f => a = 131 ∨ a = 132) A A2 ∧ same (fun a f => (a = 517 ∧ (f = 0 ∨ f = 22)) ∨ a = 622) B B2 ∧ OUTR A2 B2 := by
  have hGA := h.1.1
  have hGB := h.1.2.1
  have h0 := h.th (x := 0) hE
  have s0 : same (fun a f => (a = 517 ∧ (f = 0 ∨ f = 22)) ∨ a = 622) B (B.sD 517 0 0) := same.rf.sD (.inl ⟨rfl, .inl rfl⟩)
  have d0 : ∀ a f, ¬ (a = 517 ∧ f = 0) → (B.sD 517 0 0).D a f = B.D a f := fun a f y => rdnn y
  obtain ⟨qa, qb⟩ := qt_A h0
  have eB : F_M_save N 517 B = (if n = c then bC (F_M_putsWorld N 517 ((B.sD 517 0 0).sD 517 22 0)) fun v9 H10 => bnd ((H10.D 517 22)) fun x11 => some (x11, H10) else some ((-10), B.sD 517 0 0)) := by
    unfold F_M_save
    rw [ck_t (rS_517 hGB), bnd_t, bC_t qb]
    by_cases y : n = c
    · rw [if_pos y, if_pos y, if_neg (by decide), bnd_t]
    · rw [if_neg y, if_neg y, if_pos rfl]
  have eA : F_W_save N 0 A = (if n = c then bC (B_Store_write_23 N 131 p 12 1 131 0 ((A.sD 131 3 1).sD 131 4 0)) fun v20 H21 => rf (H21.P 0 3) fun a22 => ck (H21.sh[a22]? = some (11, 0)) <| bnd ((H21.D a22 1)) fun x25 => some (x25, H21) else some ((-10), A)) := by
    unfold F_W_save F_Store_write
    rw [ck_t (rS_0 hGA), rf_t (rP_0_2 hGA), ck_t (rS_11 hGA), bC_t qa]
    by_cases y : n = c
    · rw [if_pos y, if_pos y, if_neg (by decide), rf_t (rP_0_3 hGA), rf_t hpr, rf_t (rP_0_2 hGA), ck_t (rS_11 hGA), rf_t (rP_11_0 hGA), ck_t (rS_131 hGA), ck_t (rS_131 hGA), ck_t (.inr rfl), bnd_t, bnd_t, if_neg (by decide)]
    · rw [if_neg y, if_neg y, if_pos rfl]
  by_cases y : n = c
  · rw [if_pos y] at eA eB
    have sA : same (fun a f => a = 131 ∨ a = 132) A (((A.sD 131 3 1).sD 131 4 0).sD 131 1 0) := ((same.rf.sD (.inl rfl)).sD (.inl rfl)).sD (.inl rfl)
    have sB : same (fun a f => (a = 517 ∧ (f = 0 ∨ f = 22)) ∨ a = 622) B ((B.sD 517 0 0).sD 517 22 0) := s0.sD (.inl ⟨rfl, .inr rfl⟩)
    have h1 := h.fr hE (sA.mono fun a f y => by unfold PFA; omega) (sB.mono fun a f y => by unfold PFB; omega)
    have w1 : WTR 1 0 (((A.sD 131 3 1).sD 131 4 0).sD 131 1 0) ((B.sD 517 0 0).sD 517 22 0) := ⟨.inr rfl, by rw [rdf (by decide), rdf (by decide), rds]; rfl, by rw [rdf (by decide), rdf (by decide)]; exact h24, fun y => absurd y (by decide), fun _ => ⟨rds, rds, fun i hi => by omega⟩⟩
    have G2 : Gr ((A.sD 131 3 1).sD 131 4 0) := hGA.sD.sD
    have hd := h1
    obtain ⟨⟨hGA1, hGB1, hT1, -⟩, ⟨-, hun, -, -, b9, b3⟩, -, ⟨Qn, y1, y2, y3⟩, -⟩ := hd
    obtain ⟨A2, B2, len, r0, r1, r2, r3, r4, r5⟩ := write_jo (N := N) (kI := 1) hE hN G2 rfl ⟨hGA1, hGB1, hT1, hun, b3, b9, y1, y2.2.2⟩ w1
    obtain ⟨k1, k2, k3⟩ := r3.2.2.2.2 rfl
    have G3 := r4.gr hGA1
    refine ⟨nI len, A2, B2, ?_, ?_, h1.fr hE (r4.mono fun a f y => y.pf) (r5.mono fun a f y => y.pf), sA.tr (r4.mono fun a f y => by unfold SWA at y; omega), sB.tr (r5.mono fun a f y => by unfold SWB at y; omega), ⟨len, r0, k1, k2, k3⟩⟩
    · rw [eA, bC_t r1, rf_t (rP_0_3 G3), ck_t (rS_131 G3), bnd_t, k1]
    · rw [eB, bC_t r2, bnd_t, k2]
  · rw [if_neg y] at eA eB
    refine ⟨-10, A, _, eA, eB, h0, same.rf, s0, ?_⟩
    obtain ⟨T, t1, t2, t3, t4⟩ := hO
    exact ⟨T, t1, t2, by rw [d0 _ _ (by omega)]; exact t3, fun i hi => by rw [d0 _ _ (by omega)]; exact t4 i hi⟩
end Par
