/-! ===== places and events are written, both sides ===== -/
section Par
variable {N p wo inp cs w u ir M K0 : Nat} {s pl : Int32} {ty mn nu cd : Nat → Int32} {E Q : Nat → Nat → Nat} {V : Nat → Nat → Int32} {nL lc : Nat} {lk : Nat → Nat} {hd : Nat → Int32}
theorem en_in {un kp c q : Nat} {Nm : Nat → Nat → List Nat} {Pv : Nat → Nat → Int32} {kqA kqO : Int32 → Hp → Option (Unit × Hp)} {kqB : Int32 → Int32 → Hp → Option (Unit × Hp)} (hE : WE E) (hN : 300 ≤ N) (hc : c < E 4 0) (hq : q < 256) (al : Q 1 q = 1) (bt : Q 2 q / 2 ^ c % 2 = 1) : ∀ j i nA nB len A B, i + j = E 5 (c + 1) → E 5 c ≤ i → j < nA → j < nB → len + 4 * j ≤ 58000 → WDT p cs w M ty mn nu cd E Nm Pv Q un A B → WTR kp len A B → ∃ A2 B2, B_Store_writeEntity_54 N 131 (p + 70) 12 (nI q) kqA nA (nI c) (nI i) A = kqA (nI (c + 1)) A2 ∧ B_M_putsWorld_345 N 517 kqO kqB nB (nI q) (nI c) (nI i) B = kqB (nI q) (nI (c + 1)) B2 ∧ WDT p cs w M ty mn nu cd E Nm Pv Q un A2 B2 ∧ WTR kp (len + 4 * j) A2 B2 ∧ same (SWA kp) A A2 ∧ same (SWB kp) B B2 := by
  have e4 : E 4 0 ≤ 16 := hE.1
  have e5 := hE.2.2.1 c hc
  have e48 := hE.2.2.2.1
  intro j
  induction j with
  | zero =>
    intro i nA nB len A B hi hi2 hA hB hl h hw
    obtain ⟨nA, rfl⟩ : ∃ y, nA = y + 1 := ⟨nA - 1, by omega⟩
    obtain ⟨nB, rfl⟩ : ∃ y, nB = y + 1 := ⟨nB - 1, by omega⟩
    have h' := h
    obtain ⟨hGA, hGB, ⟨⟨-, ⟨a3, a5, a6, -⟩, -⟩, ⟨-, ⟨b16, b12, b13, -⟩, -⟩, hp, hwT, -⟩, hun, b3, b9, hW, hP⟩ := h
    have P := gr_P hGA hp
    have T := gr_T hGB w hwT
    refine ⟨A, B, ?_, ?_, h', hw, same.rf, same.rf⟩
    · rw [B_Store_writeEntity_54, ck_t (PrA_2 P), rf_t (PcP_2 P), ar_t (PcA_2 P), nI_1, rdI (show c + 1 < 17 by omega) (by decide), a5 (c + 1) (by omega), if_pos (nI_le (by omega) (by omega))]
      unfold B_Store_writeEntity_85
      rw [nI_1]
    · rw [B_M_putsWorld_345, ck_t (rS_517 hGB), rf_t b3, ck_t (TS T), rf_t (TP_18 T), ar_t (TA_18 T), nI_1, rdI (show c + 1 < 17 by omega) (by decide), b12 (c + 1) (by omega), if_pos (nI_le (by omega) (by omega))]
      unfold B_M_putsWorld_402
      rw [nI_1]
  | succ j ih =>
    intro i nA nB len A B hi hi2 hA hB hl h hw
    obtain ⟨nA, rfl⟩ : ∃ y, nA = y + 1 := ⟨nA - 1, by omega⟩
    obtain ⟨nB, rfl⟩ : ∃ y, nB = y + 1 := ⟨nB - 1, by omega⟩
    have h' := h
    obtain ⟨hGA, hGB, ⟨⟨-, ⟨a3, a5, a6, -⟩, -⟩, ⟨-, ⟨b16, b12, b13, -⟩, -⟩, hp, hwT, -⟩, hun, b3, b9, ⟨⟨w1, w2, w3, w4, w5, w6, w7⟩, -⟩, hP⟩ := h
    have P := gr_P hGA hp
    have T := gr_T hGB w hwT
    have W := gr_W hGA 12 (by decide)
    have U := gr_U hGB un hun
    have mo : mOf E c i := ⟨hc, hi2, by omega⟩
    have p5 := (w2 q hq).2.2.2.2 al
    have q2 := (w2 q hq).2.2.1
    obtain ⟨A1, B1, r1, r2, r3, r4, r5⟩ := p4_jo (N := N) (v := B.D (un + 4) (48 * q + i)) hN hGA hGB hw (by omega)
    obtain ⟨A2, B2, s1, s2, s3, s4, s5, s6⟩ := ih (i + 1) nA nB (len + 4) A1 B1 (by omega) (by omega) (by omega) (by omega) (by omega) (h'.fr hE r4 r5) r3
    refine ⟨A2, B2, ?_, ?_, s3, by rw [show len + 4 * (j + 1) = len + 4 + 4 * j by omega]; exact s4, r4.tr s5, r5.tr s6⟩
    · rw [B_Store_writeEntity_54, ck_t (PrA_2 P), rf_t (PcP_2 P), ar_t (PcA_2 P), nI_1, rdI (show c + 1 < 17 by omega) (by decide), a5 (c + 1) (by omega), if_neg (nI_ge (by omega) (by omega)), ck_t (rA_11_0 hGA), bC_t (ev_read W w4.1 w4.2.1 hq (show i < 48 by omega)), w3 q c i hq al bt mo, ck_t (rS_131 hGA), bC_t r1, nI_1]
      exact s1
    · rw [B_M_putsWorld_345, ck_t (rS_517 hGB), rf_t b3, ck_t (TS T), rf_t (TP_18 T), ar_t (TA_18 T), nI_1, rdI (show c + 1 < 17 by omega) (by decide), b12 (c + 1) (by omega), if_neg (nI_ge (by omega) (by omega)), rf_t b9, ck_t (US U), rf_t (UP_6 U), ar_t (UA_6 U), rdI hq (by decide), p5, if_pos ((nI_bit1 (by omega) (by omega)).mpr bt), rf_t b9, ck_t (US U), rf_t (UP_7 U), ar_t (UA_7 U), show (48 : Int32) * nI q + nI i = nI (48 * q + i) from nI_ma 48 q i, rdI (show 48 * q + i < 12288 by omega) (by decide), bC_t r2, nI_1]
      exact s2
theorem en_out {un kp q : Nat} {Nm : Nat → Nat → List Nat} {Pv : Nat → Nat → Int32} {kqO : Int32 → Hp → Option (Unit × Hp)} (hE : WE E) (hN : 300 ≤ N) (hq : q < 256) (al : Q 1 q = 1) : ∀ j c nA nB len A B, c + j = E 4 0 → j < nA → j < nB → len + 4 * (E 5 (E 4 0) - E 5 c) ≤ 58000 → WDT p cs w M ty mn nu cd E Nm Pv Q un A B → WTR kp len A B → ∃ A2 B2 len2, len2 ≤ len + 4 * (E 5 (E 4 0) - E 5 c) ∧ B_Store_writeEntity_26 N 131 (p + 70) 12 (nI q) nA (nI c) A = some ((), A2) ∧ B_M_putsWorld_324 N 517 kqO nB (nI q) (nI c) B = kqO (nI (q + 1)) B2 ∧ WDT p cs w M ty mn nu cd E Nm Pv Q un A2 B2 ∧ WTR kp len2 A2 B2 ∧ same (SWA kp) A A2 ∧ same (SWB kp) B B2 := by
  have e4 : E 4 0 ≤ 16 := hE.1
  have e48 := hE.2.2.2.1
  intro j
  induction j with
  | zero =>
    intro c nA nB len A B hi hA hB hl h hw
    obtain ⟨nA, rfl⟩ : ∃ y, nA = y + 1 := ⟨nA - 1, by omega⟩
    obtain ⟨nB, rfl⟩ : ∃ y, nB = y + 1 := ⟨nB - 1, by omega⟩
    have h' := h
    obtain ⟨hGA, hGB, ⟨⟨-, ⟨a3, a5, a6, -⟩, -⟩, ⟨-, ⟨b16, b12, b13, -⟩, -⟩, hp, hwT, -⟩, hun, b3, b9, hW, hP⟩ := h
    have P := gr_P hGA hp
    have T := gr_T hGB w hwT
    refine ⟨A, B, len, by omega, ?_, ?_, h', hw, same.rf, same.rf⟩
    · rw [B_Store_writeEntity_26, ck_t (PrA_2 P), bnd_t, a3, if_pos (nI_le (by omega) (by omega))]
    · rw [B_M_putsWorld_324, ck_t (rS_517 hGB), rf_t b3, ck_t (TS T), bnd_t, b16, if_pos (nI_le (by omega) (by omega))]
      unfold B_M_putsWorld_408
      rw [nI_1]
  | succ j ih =>
    intro c nA nB len A B hi hA hB hl h hw
    obtain ⟨nA, rfl⟩ : ∃ y, nA = y + 1 := ⟨nA - 1, by omega⟩
    obtain ⟨nB, rfl⟩ : ∃ y, nB = y + 1 := ⟨nB - 1, by omega⟩
    have h' := h
    obtain ⟨hGA, hGB, ⟨⟨-, ⟨a3, a5, a6, -⟩, -⟩, ⟨-, ⟨b16, b12, b13, -⟩, -⟩, hp, hwT, -⟩, hun, b3, b9, ⟨⟨w1, w2, w3, w4, w5, w6, w7⟩, -⟩, hP⟩ := h
    have P := gr_P hGA hp
    have T := gr_T hGB w hwT
    have W := gr_W hGA 12 (by decide)
    have U := gr_U hGB un hun
    obtain ⟨m1, m2, m3⟩ := hE.2.2.1 c (by omega)
    have p5 := (w2 q hq).2.2.2.2 al
    have q2 := (w2 q hq).2.2.1
    have eA : B_Store_writeEntity_26 N 131 (p + 70) 12 (nI q) (nA + 1) (nI c) A = (if (if Q 2 q / 2 ^ c % 2 = 1 then (1 : Int32) else 0) = 0 then B_Store_writeEntity_26 N 131 (p + 70) 12 (nI q) nA (nI (c + 1)) A else B_Store_writeEntity_54 N 131 (p + 70) 12 (nI q) (fun l4 H => B_Store_writeEntity_26 N 131 (p + 70) 12 (nI q) nA l4 H) N (nI c) (nI (E 5 c)) A) := by
      rw [B_Store_writeEntity_26, ck_t (PrA_2 P), bnd_t, a3, if_neg (nI_ge (by omega) (by omega)), ck_t (rA_11_0 hGA), bC_t (ev_owns W w1 hq (show c < 16 by omega) al), rf_t (PcP_2 P), ar_t (PcA_2 P), rdI (show c < 17 by omega) (by decide), a5 c (by omega)]
      unfold B_Store_writeEntity_85
      rw [nI_1]
    have eB : B_M_putsWorld_324 N 517 kqO (nB + 1) (nI q) (nI c) B = B_M_putsWorld_345 N 517 kqO (fun l1 l2 H => B_M_putsWorld_324 N 517 kqO nB l1 l2 H) N (nI q) (nI c) (nI (E 5 c)) B := by
      rw [B_M_putsWorld_324, ck_t (rS_517 hGB), rf_t b3, ck_t (TS T), bnd_t, b16, if_neg (nI_ge (by omega) (by omega)), rf_t b3, ck_t (TS T), rf_t (TP_18 T), ar_t (TA_18 T), rdI (show c < 17 by omega) (by decide), b12 c (by omega)]
    by_cases bt : Q 2 q / 2 ^ c % 2 = 1
    · rw [if_pos bt, if_neg (by decide)] at eA
      obtain ⟨A2, B2, s1, s2, s3, s4, s5, s6⟩ := en_in (N := N) (kqO := kqO) (kqA := fun l4 H => B_Store_writeEntity_26 N 131 (p + 70) 12 (nI q) nA l4 H) (kqB := fun l1 l2 H => B_M_putsWorld_324 N 517 kqO nB l1 l2 H) hE hN (show c < E 4 0 by omega) hq al bt (E 5 (c + 1) - E 5 c) (E 5 c) N N len A B (by omega) (Nat.le_refl _) (by omega) (by omega) (by omega) h' hw
      obtain ⟨A3, B3, len3, t0, t1, t2, t3, t4, t5, t6⟩ := ih (c + 1) nA nB (len + 4 * (E 5 (c + 1) - E 5 c)) A2 B2 (by omega) (by omega) (by omega) (by omega) s3 s4
      refine ⟨A3, B3, len3, by omega, ?_, ?_, t3, t4, s5.tr t5, s6.tr t6⟩
      · rw [eA, s1]
        exact t1
      · rw [eB, s2]
        exact t2
    · rw [if_neg bt, if_pos rfl] at eA
      obtain ⟨A3, B3, len3, t0, t1, t2, t3, t4, t5, t6⟩ := ih (c + 1) nA nB len A B (by omega) (by omega) (by omega) (by omega) h' hw
      refine ⟨A3, B3, len3, by omega, ?_, ?_, t3, t4, t5, t6⟩
      · rw [eA]
        exact t1
      · rw [eB]
        obtain ⟨N1, hN1⟩ : ∃ y, N = y + 1 := ⟨N - 1, by omega⟩
        have e : B_M_putsWorld_345 N 517 kqO (fun l1 l2 H => B_M_putsWorld_324 N 517 kqO nB l1 l2 H) (N1 + 1) (nI q) (nI c) (nI (E 5 c)) B = B_M_putsWorld_324 N 517 kqO nB (nI q) (nI (c + 1)) B := by
          rw [B_M_putsWorld_345, ck_t (rS_517 hGB), rf_t b3, ck_t (TS T), rf_t (TP_18 T), ar_t (TA_18 T), nI_1, rdI (show c + 1 < 17 by omega) (by decide), b12 (c + 1) (by omega), rf_t b9, ck_t (US U), rf_t (UP_6 U), ar_t (UA_6 U), rdI hq (by decide), p5, if_neg (fun y => bt ((nI_bit1 (by omega) (by omega)).mp y))]
          unfold B_M_putsWorld_402
          rw [nI_1, ite_self]
        rw [← hN1] at e
        rw [e]
        exact t2
/-- the places -/
theorem pl_lp {un kp : Nat} {kI : Int32} {Nm : Nat → Nat → List Nat} {Pv : Nat → Nat → Int32} (hE : WE E) (hN : 300 ≤ N) : ∀ j q nA nB len A B, q + j = 256 → len + 199 * j ≤ 58000 → WDT p cs w M ty mn nu cd E Nm Pv Q un A B → WTR kp len A B → ∃ A2 B2 len2, len2 ≤ len + 199 * j ∧ B_Store_write_89 N 131 p 12 kI (nA + 1 + j) (nI q) A = B_Store_write_89 N 131 p 12 kI (nA + 1) (nI 256) A2 ∧ B_M_putsWorld_250 N 517 (nB + 1 + j) (nI q) B = B_M_putsWorld_250 N 517 (nB + 1) (nI 256) B2 ∧ WDT p cs w M ty mn nu cd E Nm Pv Q un A2 B2 ∧ WTR kp len2 A2 B2 ∧ same (SWA kp) A A2 ∧ same (SWB kp) B B2 := by
  have e48 := hE.2.2.2.1
  intro j
  induction j with
  | zero =>
    intro q nA nB len A B hi hl h hw
    have hq : q = 256 := by omega
    subst hq
    exact ⟨A, B, len, by omega, rfl, rfl, h, hw, same.rf, same.rf⟩
  | succ j ih =>
    intro q nA nB len A B hi hl h hw
    have h' := h
    obtain ⟨hGA, hGB, ⟨-, -, hp, hwT, -⟩, hun, b3, b9, ⟨⟨w1, w2, w3, w4, w5, w6, w7⟩, -⟩, hP⟩ := h
    have W := gr_W hGA 12 (by decide)
    have U := gr_U hGB un hun
    have q6 : q < 256 := by omega
    obtain ⟨c1, c2, c3, c4⟩ := w1 q q6
    obtain ⟨d1, d2, d3, d4, d5⟩ := w2 q q6
    obtain ⟨A1, B1, r1, r2, r3, r4, r5⟩ := p4_jo (N := N) (v := nI (Q 0 q)) hN hGA hGB hw (by omega)
    have h1 := h'.fr hE r4 r5
    have h1' := h1
    obtain ⟨hGA1, hGB1, -, -, b31, b91, ⟨⟨w11, w21, -⟩, -⟩, -⟩ := h1
    have W1 := gr_W hGA1 12 (by decide)
    have U1 := gr_U hGB1 un hun
    obtain ⟨-, -, -, c41⟩ := w11 q q6
    obtain ⟨-, -, -, d41, d51⟩ := w21 q q6
    have eA : B_Store_write_89 N 131 p 12 kI (nA + 1 + j + 1) (nI q) A = (if (if Q 1 q = 1 then nI (Q 2 q) else -1) < (0 : Int32) then B_Store_write_124 N 131 p 12 kI (fun l4 H => B_Store_write_89 N 131 p 12 kI (nA + 1 + j) l4 H) (nI q) 131 0 A1 else B_Store_write_124 N 131 p 12 kI (fun l4 H => B_Store_write_89 N 131 p 12 kI (nA + 1 + j) l4 H) (nI q) 131 1 A1) := by
      rw [B_Store_write_89, if_neg (show ¬ (256 : Int32) ≤ nI q from nI_ge (b := 256) (by omega) (by decide)), ck_t (rA_11_0 hGA), rf_t (WP_7 W), ar_t (WA_7 W), rdI q6 (by decide), c1, ck_t (rS_131 hGA), bC_t r1, rf_t (WP_8 W1), ar_t (WA_8 W1), rdI q6 (by decide), c41]
    have eB : B_M_putsWorld_250 N 517 (nB + 1 + j + 1) (nI q) B = (if (if Q 1 q = 1 then (1 : Int32) else 0) = 0 then B_M_putsWorld_289 N 517 (fun l1 H => B_M_putsWorld_250 N 517 (nB + 1 + j) l1 H) (nI q) 517 0 B1 else B_M_putsWorld_289 N 517 (fun l1 H => B_M_putsWorld_250 N 517 (nB + 1 + j) l1 H) (nI q) 517 1 B1) := by
      rw [B_M_putsWorld_250, if_neg (show ¬ (256 : Int32) ≤ nI q from nI_ge (b := 256) (by omega) (by decide)), ck_t (rS_517 hGB), rf_t b9, ck_t (US U), rf_t (UP_4 U), ar_t (UA_4 U), rdI q6 (by decide), d1, bC_t r2, rf_t b91, ck_t (US U1), rf_t (UP_5 U1), ar_t (UA_5 U1), rdI q6 (by decide), d41]
    by_cases al : Q 1 q = 1
    · rw [if_pos al, if_neg (show ¬ nI (Q 2 q) < (0 : Int32) from nI_nlt (b := 0) (by omega) (by omega))] at eA
      rw [if_pos al, if_neg (by decide)] at eB
      obtain ⟨A2, B2, s1, s2, s3, s4, s5⟩ := p1_jo (N := N) (v := 1) hN hGA1 hGB1 r3 (by omega)
      have h2 := h1'.fr hE s4 s5
      have h2' := h2
      obtain ⟨hGA2, hGB2, -, -, b32, b92, ⟨⟨w12, w22, -⟩, -⟩, -⟩ := h2
      have W2 := gr_W hGA2 12 (by decide)
      have U2 := gr_U hGB2 un hun
      have P2 := gr_P hGA2 hp
      obtain ⟨-, -, -, c42⟩ := w12 q q6
      obtain ⟨-, -, -, d42, d52⟩ := w22 q q6
      rw [if_pos al] at c42 d42
      obtain ⟨A3, A4, B4, t1, t2, t3, t4, t5, t6, t7⟩ := p2_jo (N := N) (v := nI (Q 2 q)) hN hGA2 hGB2 s3 (by omega)
      have hGA3 := t5.gr hGA2
      have W3 := gr_W hGA3 12 (by decide)
      have c43 : A3.D (12 + 2) q = nI (Q 2 q) := by rw [t5.1 _ _ (by unfold SWA; omega)]; exact c42
      have h4 := h2'.fr hE t6 t7
      obtain ⟨A5, B5, len5, u0, u1, u2, u3, u4, u5, u6⟩ := en_out (N := N) (kqO := fun l1 H => B_M_putsWorld_250 N 517 (nB + 1 + j) l1 H) hE hN q6 al (E 4 0) 0 N N (len + 4 + 1 + 2) A4 B4 (by omega) (by have := hE.1; omega) (by have := hE.1; omega) (by omega) h4 t4
      obtain ⟨A6, B6, len6, v0, v1, v2, v3, v4, v5, v6⟩ := ih (q + 1) nA nB len5 A5 B5 (by omega) (by omega) u3 u4
      refine ⟨A6, B6, len6, by omega, ?_, ?_, v3, v4, (((r4.tr s4).tr t6).tr u5).tr v5, (((r5.tr s5).tr t7).tr u6).tr v6⟩
      · have eE : F_Store_writeEntity N 131 (p + 70) 12 (nI q) A2 = some ((), A5) := by
          unfold F_Store_writeEntity
          rw [ck_t (rA_11_0 hGA2), rf_t (WP_8 W2), ar_t (WA_8 W2), rdI q6 (by decide), c42, ck_t (rS_131 hGA2), bC_t t1, rf_t (WP_8 W3), ar_t (WA_8 W3), rdI q6 (by decide), c43, bC_t t2]
          exact u1
        rw [show nA + 1 + (j + 1) = nA + 1 + j + 1 by omega, eA]
        unfold B_Store_write_124 B_Store_write_148
        rw [ck_t (rS_131 hGA1), bC_t s1, ck_t (rA_11_0 hGA2), rf_t (WP_8 W2), ar_t (WA_8 W2), rdI q6 (by decide), c42, if_neg (show ¬ nI (Q 2 q) < (0 : Int32) from nI_nlt (b := 0) (by omega) (by omega)), ck_t (PrS P2), rf_t (PrP_2 P2), ck_t (rS_131 hGA2), bC_t eE, nI_1]
        exact v1
      · rw [show nB + 1 + (j + 1) = nB + 1 + j + 1 by omega, eB]
        unfold B_M_putsWorld_289
        rw [ck_t (rS_517 hGB1), bC_t s2, ck_t (rS_517 hGB2), rf_t b92, ck_t (US U2), rf_t (UP_5 U2), ar_t (UA_5 U2), rdI q6 (by decide), d42, if_neg (by decide), rf_t b92, ck_t (US U2), rf_t (UP_6 U2), ar_t (UA_6 U2), rdI q6 (by decide), d52 al, bC_t t3, show (0 : Int32) = nI 0 from rfl, u2]
        exact v2
    · rw [if_neg al, if_pos (by decide)] at eA
      rw [if_neg al, if_pos rfl] at eB
      obtain ⟨A2, B2, s1, s2, s3, s4, s5⟩ := p1_jo (N := N) (v := 0) hN hGA1 hGB1 r3 (by omega)
      have h2 := h1'.fr hE s4 s5
      have h2' := h2
      obtain ⟨hGA2, hGB2, -, -, b32, b92, ⟨⟨w12, w22, -⟩, -⟩, -⟩ := h2
      have W2 := gr_W hGA2 12 (by decide)
      have U2 := gr_U hGB2 un hun
      obtain ⟨-, -, -, c42⟩ := w12 q q6
      obtain ⟨-, -, -, d42, d52⟩ := w22 q q6
      rw [if_neg al] at c42 d42
      obtain ⟨A6, B6, len6, v0, v1, v2, v3, v4, v5, v6⟩ := ih (q + 1) nA nB (len + 4 + 1) A2 B2 (by omega) (by omega) h2' s3
      refine ⟨A6, B6, len6, by omega, ?_, ?_, v3, v4, (r4.tr s4).tr v5, (r5.tr s5).tr v6⟩
      · rw [show nA + 1 + (j + 1) = nA + 1 + j + 1 by omega, eA]
        unfold B_Store_write_124 B_Store_write_148
        rw [ck_t (rS_131 hGA1), bC_t s1, ck_t (rA_11_0 hGA2), rf_t (WP_8 W2), ar_t (WA_8 W2), rdI q6 (by decide), c42, if_pos (by decide), nI_1]
        exact v1
      · rw [show nB + 1 + (j + 1) = nB + 1 + j + 1 by omega, eB]
        unfold B_M_putsWorld_289 B_M_putsWorld_408
        rw [ck_t (rS_517 hGB1), bC_t s2, ck_t (rS_517 hGB2), rf_t b92, ck_t (US U2), rf_t (UP_5 U2), ar_t (UA_5 U2), rdI q6 (by decide), d42, if_pos rfl, nI_1]
        exact v2
/-- an event's values -/
theorem pe_in {un kp k e : Nat} {Nm : Nat → Nat → List Nat} {Pv : Nat → Nat → Int32} {kqA kqB : Int32 → Hp → Option (Unit × Hp)} (hE : WE E) (hN : 300 ≤ N) (he : e < E 9 0) (hk : k < Q 5 2) : ∀ j s nA nB len A B, s + j = E 10 e → j < nA → j < nB → len + 4 * j ≤ 58000 → B.D (un + 5) k = nI e → WDT p cs w M ty mn nu cd E Nm Pv Q un A B → WTR kp len A B → ∃ A2 B2, B_Store_writeEvents_64 N 131 (p + 138) 12 kqA nA (nI k) (nI (7 * k)) (nI (2 + E 10 e)) (nI (3 + s)) A = kqA (nI (k + 1)) A2 ∧ B_M_putsWorld_483 N 517 kqB nB (nI k) (nI s) B = kqB (nI (k + 1)) B2 ∧ WDT p cs w M ty mn nu cd E Nm Pv Q un A2 B2 ∧ WTR kp (len + 4 * j) A2 B2 ∧ same (SWA kp) A A2 ∧ same (SWB kp) B B2 := by
  have e8 := hE.2.2.2.2.2.1
  obtain ⟨x1, x2, x3⟩ := hE.2.2.2.2.2.2.2.1 e he
  intro j
  induction j with
  | zero =>
    intro s nA nB len A B hi hA hB hl hev h hw
    obtain ⟨nA, rfl⟩ : ∃ y, nA = y + 1 := ⟨nA - 1, by omega⟩
    obtain ⟨nB, rfl⟩ : ∃ y, nB = y + 1 := ⟨nB - 1, by omega⟩
    have h' := h
    obtain ⟨hGA, hGB, ⟨⟨-, -, ⟨a3, a11, a12, -⟩, -⟩, ⟨-, -, ⟨b21, b10, b17, -⟩, -⟩, hp, hwT, -⟩, hun, b3, b9, ⟨⟨w1, w2, w3, w4, w5, w6, w7⟩, -⟩, hP⟩ := h
    have T := gr_T hGB w hwT
    have U := gr_U hGB un hun
    have w63 := w6.2.2.1
    refine ⟨A, B, ?_, ?_, h', hw, same.rf, same.rf⟩
    · rw [B_Store_writeEvents_64, if_pos (nI_lt (by omega) (by omega)), nI_1]
    · rw [B_M_putsWorld_483, ck_t (rS_517 hGB), rf_t b3, ck_t (TS T), rf_t (TP_23 T), rf_t b9, ck_t (US U), rf_t (UP_9 U), ar_t (UA_9 U), rdI (show k < 256 by omega) (by decide), hev, ar_t (TA_23 T), rdI (show e < 8 by omega) (by decide), b10 e he, if_pos (nI_le (by omega) (by omega)), nI_1]
  | succ j ih =>
    intro s nA nB len A B hi hA hB hl hev h hw
    obtain ⟨nA, rfl⟩ : ∃ y, nA = y + 1 := ⟨nA - 1, by omega⟩
    obtain ⟨nB, rfl⟩ : ∃ y, nB = y + 1 := ⟨nB - 1, by omega⟩
    have h' := h
    obtain ⟨hGA, hGB, ⟨⟨-, -, ⟨a3, a11, a12, -⟩, -⟩, ⟨-, -, ⟨b21, b10, b17, -⟩, -⟩, hp, hwT, -⟩, hun, b3, b9, ⟨⟨w1, w2, w3, w4, w5, w6, w7⟩, -⟩, hP⟩ := h
    have T := gr_T hGB w hwT
    have U := gr_U hGB un hun
    have W := gr_W hGA 12 (by decide)
    have hu2 := lU_le hun
    have w63 := w6.2.2.1
    obtain ⟨m0, m1, m2, m3⟩ := w6.2.2.2 k hk
    obtain ⟨A1, B1, r1, r2, r3, r4, r5⟩ := p4_jo (N := N) (v := B.D (un + 8) (4 * k + s)) hN hGA hGB hw (by omega)
    obtain ⟨A2, B2, s1, s2, s3, s4, s5, s6⟩ := ih (s + 1) nA nB (len + 4) A1 B1 (by omega) (by omega) (by omega) (by omega) (by rw [r5.1 _ _ (by unfold SWB; omega)]; exact hev) (h'.fr hE r4 r5) r3
    refine ⟨A2, B2, ?_, ?_, s3, by rw [show len + 4 * (j + 1) = len + 4 + 4 * j by omega]; exact s4, r4.tr s5, r5.tr s6⟩
    · rw [B_Store_writeEvents_64, if_neg (nI_nlt (by omega) (by omega)), ck_t (rA_11_0 hGA), rf_t (WP_12 W), ar_t (WA_12 W), nI_ad, rdI (show 7 * k + (3 + s) < 1792 by omega) (by decide), show 7 * k + (3 + s) = 7 * k + 3 + s by omega, m3 e s hev he (by omega), ck_t (rS_131 hGA), bC_t r1, nI_1]
      exact s1
    · rw [B_M_putsWorld_483, ck_t (rS_517 hGB), rf_t b3, ck_t (TS T), rf_t (TP_23 T), rf_t b9, ck_t (US U), rf_t (UP_9 U), ar_t (UA_9 U), rdI (show k < 256 by omega) (by decide), hev, ar_t (TA_23 T), rdI (show e < 8 by omega) (by decide), b10 e he, if_neg (nI_ge (by omega) (by omega)), rf_t b9, ck_t (US U), rf_t (UP_12 U), ar_t (UA_12 U), show (4 : Int32) * nI k + nI s = nI (4 * k + s) from nI_ma 4 k s, rdI (show 4 * k + s < 1024 by omega) (by decide), bC_t r2, nI_1]
      exact s2
theorem pe_out {un kp : Nat} {Nm : Nat → Nat → List Nat} {Pv : Nat → Nat → Int32} (hE : WE E) (hN : 300 ≤ N) : ∀ j k nA nB len A B, k + j = Q 5 2 → j < nA → j < nB → len + 25 * j ≤ 58000 → WDT p cs w M ty mn nu cd E Nm Pv Q un A B → WTR kp len A B → ∃ A2 B2 len2, len2 ≤ len + 25 * j ∧ B_Store_writeEvents_21 N 131 (p + 138) 12 nA (nI k) A = some ((), A2) ∧ B_M_putsWorld_428 N 517 nB (nI k) B = some ((), B2) ∧ WDT p cs w M ty mn nu cd E Nm Pv Q un A2 B2 ∧ WTR kp len2 A2 B2 ∧ same (SWA kp) A A2 ∧ same (SWB kp) B B2 := by
  intro j
  induction j with
  | zero =>
    intro k nA nB len A B hi hA hB hl h hw
    obtain ⟨nA, rfl⟩ : ∃ y, nA = y + 1 := ⟨nA - 1, by omega⟩
    obtain ⟨nB, rfl⟩ : ∃ y, nB = y + 1 := ⟨nB - 1, by omega⟩
    have h' := h
    obtain ⟨hGA, hGB, -, hun, b3, b9, ⟨⟨w1, w2, w3, w4, w5, w6, w7⟩, -⟩, hP⟩ := h
    have U := gr_U hGB un hun
    have w63 := w6.2.2.1
    refine ⟨A, B, len, by omega, ?_, ?_, h', hw, same.rf, same.rf⟩
    · rw [B_Store_writeEvents_21, ck_t (rA_11_0 hGA), bnd_t, w6.1, if_pos (nI_le (by omega) (by omega))]
    · rw [B_M_putsWorld_428, ck_t (rS_517 hGB), rf_t b9, ck_t (US U), bnd_t, w6.2.1, if_pos (nI_le (by omega) (by omega))]
  | succ j ih =>
    intro k nA nB len A B hi hA hB hl h hw
    obtain ⟨nA, rfl⟩ : ∃ y, nA = y + 1 := ⟨nA - 1, by omega⟩
    obtain ⟨nB, rfl⟩ : ∃ y, nB = y + 1 := ⟨nB - 1, by omega⟩
    have h' := h
    obtain ⟨hGA, hGB, ⟨-, -, hp, hwT, -⟩, hun, b3, b9, ⟨⟨w1, w2, w3, w4, w5, w6, w7⟩, -⟩, hP⟩ := h
    have W := gr_W hGA 12 (by decide)
    have U := gr_U hGB un hun
    have hu2 := lU_le hun
    have w63 := w6.2.2.1
    have hk : k < Q 5 2 := by omega
    obtain ⟨m0, m1, m2, m3⟩ := w6.2.2.2 k hk
    obtain ⟨e, he, hev⟩ := hP k hk
    have e8 := hE.2.2.2.2.2.1
    obtain ⟨x1, x2, x3⟩ := hE.2.2.2.2.2.2.2.1 e he
    have e7 : nI k * (7 : Int32) = nI (7 * k) := by rw [Nat.mul_comm]; exact nI_mu k 7
    obtain ⟨A1, B1, r1, r2, r3, r4, r5⟩ := p1_jo (N := N) (v := nI e) hN hGA hGB hw (by omega)
    have h1 := h'.fr hE r4 r5
    have h1' := h1
    obtain ⟨hGA1, hGB1, ⟨⟨-, -, ⟨a3, a11, a12, -⟩, -⟩, -⟩, -, b31, b91, -⟩ := h1
    have W1 := gr_W hGA1 12 (by decide)
    have P1 := gr_P hGA1 hp
    have U1 := gr_U hGB1 un hun
    have dA1 : ∀ f, A1.D 16 f = A.D 16 f := fun f => r4.1 _ _ (by unfold SWA; omega)
    have dB1 : ∀ a f, un ≤ a → a ≤ un + 9 → B1.D a f = B.D a f := fun a f y1 y2 => r5.1 _ _ (by unfold SWB; omega)
    have esz : F_Shapes_sizeOf N (p + 138) (nI e) A1 = some (nI (E 11 (e + 1) - E 11 e), A1) := ev_sizeOf (fr := p + 181) (R := 9) (PrA_3 P1) (PeP_2 P1) (PeA_2 P1) (by decide) a3 (by omega) he (a11 e (by omega)) (a11 (e + 1) (by omega)) (by omega)
    rw [show E 11 (e + 1) - E 11 e = E 10 e by omega] at esz
    obtain ⟨A2, B2, s1, s2, s3, s4, s5⟩ := p4_jo (N := N) (v := B.D (un + 6) k) hN hGA1 hGB1 r3 (by omega)
    have h2 := h1'.fr hE s4 s5
    have h2' := h2
    obtain ⟨hGA2, hGB2, -, -, b32, b92, -⟩ := h2
    have W2 := gr_W hGA2 12 (by decide)
    have U2 := gr_U hGB2 un hun
    have dA2 : ∀ f, A2.D 16 f = A.D 16 f := fun f => by rw [s4.1 _ _ (by unfold SWA; omega)]; exact dA1 f
    have dB2 : ∀ a f, un ≤ a → a ≤ un + 9 → B2.D a f = B.D a f := fun a f y1 y2 => by rw [s5.1 _ _ (by unfold SWB; omega)]; exact dB1 a f y1 y2
    obtain ⟨A3, B3, t1, t2, t3, t4, t5⟩ := p4_jo (N := N) (v := B.D (un + 7) k) hN hGA2 hGB2 s3 (by omega)
    have h3 := h2'.fr hE t4 t5
    have dB3 : ∀ a f, un ≤ a → a ≤ un + 9 → B3.D a f = B.D a f := fun a f y1 y2 => by rw [t5.1 _ _ (by unfold SWB; omega)]; exact dB2 a f y1 y2
    obtain ⟨N1, hN1⟩ : ∃ y, N = y + 1 + 1 := ⟨N - 2, by omega⟩
    obtain ⟨A4, B4, u1, u2, u3, u4, u5, u6⟩ := pe_in (N := N) (kqA := fun l3 H => B_Store_writeEvents_21 N 131 (p + 138) 12 nA l3 H) (kqB := fun l1 H => B_M_putsWorld_428 N 517 nB l1 H) hE hN he hk (E 10 e) 0 N1 N (len + 1 + 4 + 4) A3 B3 (by omega) (by omega) (by omega) (by omega) (by rw [dB3 _ _ (by omega) (by omega)]; exact hev) h3 t3
    obtain ⟨A5, B5, len5, v0, v1, v2, v3, v4, v5, v6⟩ := ih (k + 1) nA nB (len + 1 + 4 + 4 + 4 * E 10 e) A4 B4 (by omega) (by omega) (by omega) (by omega) u3 u4
    refine ⟨A5, B5, len5, by omega, ?_, ?_, v3, v4, (((r4.tr s4).tr t4).tr u5).tr v5, (((r5.tr s5).tr t5).tr u6).tr v6⟩
    · have e64 : B_Store_writeEvents_64 N 131 (p + 138) 12 (fun l3 H => B_Store_writeEvents_21 N 131 (p + 138) 12 nA l3 H) (N1 + 1 + 1) (nI k) (nI (7 * k)) (nI (2 + E 10 e)) (nI 1) A1 = B_Store_writeEvents_21 N 131 (p + 138) 12 nA (nI (k + 1)) A4 := by
        rw [B_Store_writeEvents_64, if_neg (nI_nlt (by omega) (by omega)), ck_t (rA_11_0 hGA1), rf_t (WP_12 W1), ar_t (WA_12 W1), nI_ad, rdI (show 7 * k + 1 < 1792 by omega) (by decide), show A1.D (12 + 4) (7 * k + 1) = B.D (un + 6) k by rw [dA1]; exact m1, ck_t (rS_131 hGA1), bC_t s1, nI_1, B_Store_writeEvents_64, if_neg (nI_nlt (by omega) (by omega)), ck_t (rA_11_0 hGA2), rf_t (WP_12 W2), ar_t (WA_12 W2), nI_ad, rdI (show 7 * k + (1 + 1) < 1792 by omega) (by decide), show A2.D (12 + 4) (7 * k + (1 + 1)) = B.D (un + 7) k by rw [dA2]; exact m2, ck_t (rS_131 hGA2), bC_t t1, nI_1]
        exact u1
      rw [← hN1] at e64
      rw [B_Store_writeEvents_21, ck_t (rA_11_0 hGA), bnd_t, w6.1, if_neg (nI_ge (by omega) (by omega)), e7, bnd_t, rf_t (WP_12 W), ar_t (WA_12 W), rdI (show 7 * k < 1792 by omega) (by decide), show A.D (12 + 4) (7 * k) = nI e by rw [m0]; exact hev, ck_t (rS_131 hGA), bC_t r1, rf_t (WP_12 W1), ar_t (WA_12 W1), rdI (show 7 * k < 1792 by omega) (by decide), show A1.D (12 + 4) (7 * k) = nI e by rw [dA1, m0]; exact hev, ck_t (PrA_3 P1), bC_t esz, show (2 : Int32) + nI (E 10 e) = nI (2 + E 10 e) from nI_ad 2 _, bnd_t]
      exact e64.trans v1
    · rw [B_M_putsWorld_428, ck_t (rS_517 hGB), rf_t b9, ck_t (US U), bnd_t, w6.2.1, if_neg (nI_ge (by omega) (by omega)), rf_t b9, ck_t (US U), rf_t (UP_9 U), ar_t (UA_9 U), rdI (show k < 256 by omega) (by decide), hev, bC_t r2, rf_t b91, ck_t (US U1), rf_t (UP_10 U1), ar_t (UA_10 U1), rdI (show k < 256 by omega) (by decide), dB1 _ _ (by omega) (by omega), bC_t s2, rf_t b92, ck_t (US U2), rf_t (UP_11 U2), ar_t (UA_11 U2), rdI (show k < 256 by omega) (by decide), dB2 _ _ (by omega) (by omega), bC_t t2, show (0 : Int32) = nI 0 from rfl, u2]
      exact v2
end Par
