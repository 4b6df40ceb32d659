/-! ===== emit ===== -/
section Par
variable {N p wo inp cs w u ir M K0 : Nat} {s pl : Int32} {ty mn nu cd : Nat → Int32} {E Q : Nat → Nat → Nat} {V : Nat → Nat → Int32} {nL lc : Nat} {lk : Nat → Nat} {hd : Nat → Int32}
theorem c257 {B : Hp} {mk : Nat} {l1 l2 l3 l4 l5 l6 l7 : Int32} (hG : Gr B) (hu : u ∈ lU) (hP : B.P 611 1 = .ref u) (h10 : B.D 611 10 = 0) (h4 : B.D 611 4 = nI (K0 + mk)) (h7 : B.D 611 7 = nI K0) (hK : K0 + 8 ≤ 32768) :
    (mk < 8 → ∃ B3, B_MRunner_emits_257 N 611 l1 l2 l3 l4 l5 l6 l7 B = some ((), B3) ∧ same (EXK (12 * (K0 + mk))) B B3 ∧ B3.D 611 4 = nI (K0 + mk + 1) ∧ B3.D 611 11 = B.D 611 11 ∧ B3.D 612 (12 * (K0 + mk)) = 227 ∧ B3.D 612 (12 * (K0 + mk) + 1) = l1 ∧ B3.D 612 (12 * (K0 + mk) + 2) = l6 ∧ B3.D 612 (12 * (K0 + mk) + 3) = B.D u 0 + l7 ∧ B3.D 612 (12 * (K0 + mk) + 4) = l2 ∧ B3.D 612 (12 * (K0 + mk) + 5) = l3 ∧ B3.D 612 (12 * (K0 + mk) + 6) = l4 ∧ B3.D 612 (12 * (K0 + mk) + 7) = l5) ∧
    (mk = 8 → ∃ B4, B_MRunner_emits_257 N 611 l1 l2 l3 l4 l5 l6 l7 B = some ((), B4) ∧ same (fun a f => a = 611 ∧ (f = 10 ∨ f = 11)) B B4 ∧ B4.D 611 10 = 6) := by
  have hu' := lU_le hu
  constructor
  · intro q
    generalize hH : (B.sD 611 4 (nI (K0 + mk + 1))).sD 612 (12 * (K0 + mk)) 227 = H
    have ec := ev_cmd (N := N) (t := 227) hG h10 h4 h7 hK q
    rw [hH] at ec
    have hGH : Gr H := by rw [← hH]; exact hG
    have hPH : H.P 611 1 = .ref u := by rw [← hH]; exact hP
    have hDH : H.D u 0 = B.D u 0 := by rw [← hH, rdw (by omega), rdw (by omega)]
    have hsH : same (EXK (12 * (K0 + mk))) B H := by
      rw [← hH]
      exact same.sD (same.sD same.rf (.inl ⟨rfl, by omega⟩)) (.inr ⟨rfl, by omega⟩)
    have h4H : H.D 611 4 = nI (K0 + mk + 1) := by rw [← hH, rdw (by decide), rds]
    have h11H : H.D 611 11 = B.D 611 11 := by rw [← hH, rdw (by decide), rdf (by decide)]
    have h0H : H.D 612 (12 * (K0 + mk)) = 227 := by rw [← hH, rds]
    generalize hk : 12 * (K0 + mk) = k at *
    have g1 : Gr ((H).sD 612 (k + 1) l1) := hGH
    have g2 : Gr (((H).sD 612 (k + 1) l1).sD 612 (k + 2) l6) := hGH
    have g3 : Gr ((((H).sD 612 (k + 1) l1).sD 612 (k + 2) l6).sD 612 (k + 3) (B.D u 0 + l7)) := hGH
    have g4 : Gr (((((H).sD 612 (k + 1) l1).sD 612 (k + 2) l6).sD 612 (k + 3) (B.D u 0 + l7)).sD 612 (k + 4) l2) := hGH
    have g5 : Gr ((((((H).sD 612 (k + 1) l1).sD 612 (k + 2) l6).sD 612 (k + 3) (B.D u 0 + l7)).sD 612 (k + 4) l2).sD 612 (k + 5) l3) := hGH
    have g6 : Gr (((((((H).sD 612 (k + 1) l1).sD 612 (k + 2) l6).sD 612 (k + 3) (B.D u 0 + l7)).sD 612 (k + 4) l2).sD 612 (k + 5) l3).sD 612 (k + 6) l4) := hGH
    refine ⟨(((((((H).sD 612 (k + 1) l1).sD 612 (k + 2) l6).sD 612 (k + 3) (B.D u 0 + l7)).sD 612 (k + 4) l2).sD 612 (k + 5) l3).sD 612 (k + 6) l4).sD 612 (k + 7) l5, ?_, same.sD (same.sD (same.sD (same.sD (same.sD (same.sD (same.sD (hsH) (.inr ⟨rfl, by omega⟩)) (.inr ⟨rfl, by omega⟩)) (.inr ⟨rfl, by omega⟩)) (.inr ⟨rfl, by omega⟩)) (.inr ⟨rfl, by omega⟩)) (.inr ⟨rfl, by omega⟩)) (.inr ⟨rfl, by omega⟩), ?_, ?_, ?_, ?_, ?_, ?_, ?_, ?_, ?_, ?_⟩
    rotate_left
    · rw [rdw (by decide), rdw (by decide), rdw (by decide), rdw (by decide), rdw (by decide), rdw (by decide), rdw (by decide)]; exact h4H
    · rw [rdw (by decide), rdw (by decide), rdw (by decide), rdw (by decide), rdw (by decide), rdw (by decide), rdw (by decide)]; exact h11H
    · rw [rdf (by omega), rdf (by omega), rdf (by omega), rdf (by omega), rdf (by omega), rdf (by omega), rdf (by omega)]; exact h0H
    · rw [rdf (by omega), rdf (by omega), rdf (by omega), rdf (by omega), rdf (by omega), rdf (by omega), rds]
    · rw [rdf (by omega), rdf (by omega), rdf (by omega), rdf (by omega), rdf (by omega), rds]
    · rw [rdf (by omega), rdf (by omega), rdf (by omega), rdf (by omega), rds]
    · rw [rdf (by omega), rdf (by omega), rdf (by omega), rds]
    · rw [rdf (by omega), rdf (by omega), rds]
    · rw [rdf (by omega), rds]
    · rw [rds]
    · unfold B_MRunner_emits_257
      rw [ck_t (rS_611 hG), bC_t ec, if_pos (show (0 : Int32) ≤ nI k from nI_le (a := 0) (by omega) (by omega)), rf_t (rP_611_3 hGH), ar_t (rA_611_3 hGH), nI_1, wrI (by omega) (by decide), rf_t (rP_611_3 g1), ar_t (rA_611_3 g1), show nI k + (2 : Int32) = nI (k + 2) from nI_ad k 2, wrI (by omega) (by decide), rf_t (rP_611_3 g2), rf_t (show (((H).sD 612 (k + 1) l1).sD 612 (k + 2) l6).P 611 1 = .ref u from hPH), ck_t (US (gr_U g2 u hu)), bnd_t, show (((H).sD 612 (k + 1) l1).sD 612 (k + 2) l6).D u 0 = B.D u 0 from by rw [rdw (by omega), rdw (by omega)]; exact hDH, ar_t (rA_611_3 g2), show nI k + (3 : Int32) = nI (k + 3) from nI_ad k 3, wrI (by omega) (by decide), rf_t (rP_611_3 g3), ar_t (rA_611_3 g3), show nI k + (4 : Int32) = nI (k + 4) from nI_ad k 4, wrI (by omega) (by decide), rf_t (rP_611_3 g4), ar_t (rA_611_3 g4), show nI k + (5 : Int32) = nI (k + 5) from nI_ad k 5, wrI (by omega) (by decide), rf_t (rP_611_3 g5), ar_t (rA_611_3 g5), show nI k + (6 : Int32) = nI (k + 6) from nI_ad k 6, wrI (by omega) (by decide), rf_t (rP_611_3 g6), ar_t (rA_611_3 g6), show nI k + (7 : Int32) = nI (k + 7) from nI_ad k 7, wrI (by omega) (by decide)]
  · intro q
    subst q
    refine ⟨B.sD 611 10 6, ?_, same.sD same.rf ⟨rfl, by omega⟩, rds⟩
    unfold B_MRunner_emits_257
    rw [ck_t (rS_611 hG), bC_t (ev_cm8 hG h10 h4 h7), if_neg (by decide)]
theorem s_emt {dp i m q r a b b2 b3 e k1' k2' : Nat} (hF : (FIX N p wo w u K0 M E)) (h0 : ty i = 227) (hm : mn (i + 1) = nI e) (he : e < E 9 0) (h : SP4 N s pl p wo inp cs w u ir M ty mn nu cd E K0 nL lc hd (i + 3) m a b (E 10 e) e) (hD : DE ty mn nu cd E nL lc lk hd 0 (dp + 1) (m + 3) q b b2 k1') (hD2 : DE ty mn nu cd E nL lc lk hd 0 (dp + 1) (q + 3) r b2 b3 k2') (c0 : cd b3 = 25) (c1 : cd (b3 + 1) = nI e) (hq : m + 3 < q) (hr : q + 3 < r) (hb2 : b < b2) (hb3 : b2 < b3) : (SP0 N s pl p wo inp cs w u ir M ty mn nu cd E K0 nL lc hd dp i (r + 2) a (b3 + 2) nL hd) := by
  obtain ⟨p1, p2, p3, go⟩ := h
  refine ⟨by omega, by omega, by omega, fun d Q V A la z B mk st dr hI k1 k2 k3 k4 k5 => ?_⟩
  have w6 := hF.1.2.2.2.2.2.1
  have w8 := hF.1.2.2.2.2.2.2.2.1 e he
  have hu := hF.2.2.2.2.2.2.1
  have hu' := lU_le hu
  have hw' := lT_le hF.2.2.2.2.2.1
  have hB1 := hI.to (j := i + 1) hF
  have hB3 := hB1.to (j := i + 3) hF
  have hK8 := hF.2.2.2.2.2.2.2.1
  have hN := hF.2.2.1
  have hr1 := hB1.2.1.1.1
  obtain ⟨t0, t1, t2, t3, t4, t5, t6⟩ := hr1.T
  have hM := hr1.2.2.2.2.2.2.2.1
  have eh : dsp N (X_RunS N d) B = B_MRunner_emits_36 N 611 N (nI e) 0 0 0 0 0 (atB (atB B (i + 1)) (i + 3)) := by
    rw [dsp_h hI.2.1.1.1 (by omega) hI.2.2.2.1.1, h0, dsq_227]
    unfold F_MRunner_emits
    rw [ck_t (rS_611 hr1.1), rf_t hr1.2.2.2.1, ck_t t0, rf_t t5, bnd_t, hB1.2.2.2.1.1, ar_t t6, rdI (show i + 1 < 6002 by omega) (by decide), (hr1.2.2.2.2.2.2.2.2 (i + 1) (by omega)).2.1, hm, bnd_t, show nI (i + 1) + (2 : Int32) = nI (i + 3) from nI_ad (i + 1) 2, bnd_t]
    rfl
  have p0 : (PRE N s pl wo (Q 4 0 * Q 5 0) E lc V V a a A la z A la z B (atB (atB B (i + 1)) (i + 3)) st st) := (PRE.at hI.2.2.2.2).tr (PRE.at hB1.2.2.2.2)
  rcases go Q V A la z _ mk st dr hB3 he (Nat.le_refl _) (by omega) (by omega) with ⟨A2, B2, dr2, vs, q1, q2, q3, q4, q5⟩ | q5
  · obtain ⟨g, hg⟩ : ∃ g, N = g + 1 + E 10 e := ⟨N - 1 - E 10 e, by omega⟩
    have e1 := q5 (g + 1)
    rw [← hg, em_stop hF q2.2.1.1.1 (TXBk q2.2.1 he) he (by omega) (.inl (Nat.le_refl _))] at e1
    have hr2 := q2.2.1.1.1
    obtain ⟨s0, -⟩ := hr2.T
    have hT := hr2.2.1
    have q6 := q2.to (j := m + 3) hF
    have e151 : B_MRunner_emits_151 N 611 (nI e) (vs 0) (vs 1) (vs 2) (vs 3) B2 = (bC ((X_RunE N 50).1 611 (atB B2 (m + 3))) fun v43 H44 => B_MRunner_emits_192 N 611 (nI e) (vs 0) (vs 1) (vs 2) (vs 3) v43 H44) := by
      unfold B_MRunner_emits_151 B_MRunner_emits_173
      rw [ck_t (rS_611 hr2.1), bnd_t, q2.2.2.2.1.1, rf_t hr2.2.2.2.1, ck_t s0, rf_t (TP_23 hT), ar_t (TA_23 hT), rdI (show e < 8 by omega) (by decide), TXBk q2.2.1 he]
      by_cases z0 : E 10 e = 0
      · rw [if_pos (by rw [z0]; rfl), if_pos z0, ck_t (rS_611 hr2.1), show nI m + (3 : Int32) = nI (m + 3) from nI_ad m 3, bnd_t, show B2.sD 611 11 (nI (m + 3)) = atB B2 (m + 3) from rfl, ck_t (rS_611 q6.2.1.1.1.1), bnd_t, q6.2.2.2.1.2.1, if_pos (by decide)]
      · rw [if_neg (show ¬ nI (E 10 e) = (0 : Int32) from fun z => z0 ((nI_eq (b := 0) (by omega) (by decide)).mp z)), if_neg z0, ck_t (rS_611 hr2.1), show nI (m + 1) + (2 : Int32) = nI (m + 3) from nI_ad (m + 1) 2, bnd_t, show B2.sD 611 11 (nI (m + 3)) = atB B2 (m + 3) from rfl, ck_t (rS_611 q6.2.1.1.1.1), bnd_t, q6.2.2.2.1.2.1, if_pos (by decide)]
    rw [e151] at e1
    have pa : (PRE N s pl wo (Q 4 0 * Q 5 0) E lc V V a b A la z A2 la z B (atB B2 (m + 3)) st st) := (p0.tr q1).tr (PRE.at q2.2.2.2.2)
    -- behind a failure
    have f219 : ∀ (H : Hp) (x w0 l6 y : Int32), Gr H → H.D 611 11 = x → H.D 611 10 = y → 0 < y → B_MRunner_emits_219 N 611 (nI e) (vs 0) (vs 1) (vs 2) (vs 3) l6 w0 H = some ((), H.sD 611 11 (x + 2)) := fun H x w0 l6 y hG h11 h10 hy => by
      have hG1 : Gr (H.sD 611 11 (x + 2)) := hG
      have y1 : (H.sD 611 11 (x + 2)).D 611 10 = y := by rw [rdf (by decide)]; exact h10
      unfold B_MRunner_emits_219 B_MRunner_emits_257
      rw [ck_t (rS_611 hG), bnd_t, h11, bnd_t, bnd_t, y1, if_neg (fun z => by rw [z] at hy; exact absurd hy (by decide)), ck_t (rS_611 hG1), bC_t (ev_cmf hG1 (by rw [y1]; exact hy)), if_neg (by decide)]
    rcases s_val (N := N) (s := s) (pl := pl) hF hD q6 (by omega) (by omega) (by omega) with ⟨n3, A3, B3, v, dr3, g1, g2, g3, g4, g5, g6, g7⟩ | ⟨n3, A3, B3, v, y, j', g1, g2, g3, g4, g5, g6, g7, g8, g9, g10⟩
    · have g8 := g7.to (j := q + 3) hF
      have pb : (PRE N s pl wo (Q 4 0 * Q 5 0) E lc V V a b2 A la z A3 la z B (atB B3 (q + 3)) st st) := (pa.tr (PRE.ex q6.2.2.2.2 g1 g2 g3 g6)).tr (PRE.at g7.2.2.2.2)
      rw [bC_t g5] at e1
      unfold B_MRunner_emits_192 at e1
      rw [ck_t (rS_611 g7.2.1.1.1.1), bnd_t, g7.2.2.2.1.1, show nI q + (3 : Int32) = nI (q + 3) from nI_ad q 3, bnd_t, show B3.sD 611 11 (nI (q + 3)) = atB B3 (q + 3) from rfl, bnd_t, g8.2.2.2.1.2.1, if_pos (show (0 : Int32) ≤ 0 by decide)] at e1
      rcases s_val (N := N) (s := s) (pl := pl) hF hD2 g8 (by omega) (by omega) (by omega) with ⟨n4, A4, B4, v4, dr4, r1, r2, r3, r4, r5, r6, r7⟩ | ⟨n4, A4, B4, v4, y, j', r1, r2, r3, r4, r5, r6, r7, r8, r9, r10⟩
      · have r8 := r7.to (j := r + 2) hF
        have pc : (PRE N s pl wo (Q 4 0 * Q 5 0) E lc V V a b3 A la z A4 la z B (atB B4 (r + 2)) st st) := (pb.tr (PRE.ex g8.2.2.2.2 r1 r2 r3 r6)).tr (PRE.at r7.2.2.2.2)
        have i1 := r8.1
        have hc5 := r8.2.2.2.2
        have sv : A4.D 119 (0 + E 10 e) = v := by rw [Nat.zero_add, r3.1 119 (E 10 e) (by unfold EXA; omega)]; exact g4
        have sl : A4.D 119 (0 + E 10 e + 1) = v4 := by rw [Nat.zero_add]; exact r4
        have sk : ∀ k, k < E 10 e → A4.D 119 (0 + k) = vs k := fun k hk => by rw [Nat.zero_add, r3.1 119 k (by unfold EXA; omega), g3.1 119 k (by unfold EXA; omega)]; exact q3 k hk
        obtain ⟨C, C1, C2, C3⟩ := i1.2.2.1.2.1
        have o25 := op_25 (N := N) (s := s) (pl := pl) (h := 0) (n := E 10 e) (e := e) (x1 := E 11 e) (C := C) ((i1.1.at_cd (by omega)).trans c1) w8.1 (by omega) (Nat.lt_of_lt_of_le he C2) C3 C1 (i1.2.2.1.2.2 e (by omega)) (by rw [i1.2.2.1.2.2 (e + 1) (by omega), w8.2.1]) hc5.1 hc5.2.1 hc5.2.2.1 (fun _ => by omega) hc5.2.2.2.1 hc5.2.2.2.2.1 i1.1.1 (by rw [Nat.zero_add]; exact r8.2.2.1) (by omega) i1.1.2.1 (by omega) ((i1.1.at_cd (by omega)).trans c0)
        rw [sl, sv] at o25
        rw [bC_t r5] at e1
        unfold B_MRunner_emits_219 at e1
        rw [ck_t (rS_611 r7.2.1.1.1.1), bnd_t, r7.2.2.2.1.1, show nI r + (2 : Int32) = nI (r + 2) from nI_ad r 2, bnd_t, show B4.sD 611 11 (nI (r + 2)) = atB B4 (r + 2) from rfl, bnd_t, r8.2.2.2.1.2.1, if_pos (show (0 : Int32) = 0 from rfl), bC_t (ev_in (lo := 1) (hi := 16) (a := 1) (b := 16) rfl rfl)] at e1
        rcases o25 with ⟨⟨z1, z2⟩, o, x1, x2, x3, x4, x5, x6⟩ | ⟨z0, A', x1, x2, x3, x4, x5⟩
        · have z3 : ¬ (16 : Int32) < v4 := fun y => by rw [Int32.lt_iff_toInt_lt] at y; rw [Int32.le_iff_toInt_le] at z2; omega
          rw [if_neg z1, if_neg z3, if_neg (show ¬ (1 : Int32) = 0 by decide)] at e1
          obtain ⟨t, ht, rfl⟩ : ∃ t, t < 17 ∧ v4 = nI t := nI_small (n := 17) (fun y => z1 (by rw [Int32.lt_iff_toInt_lt] at y ⊢; have : (1 : Int32).toInt = 1 := rfl; have : (0 : Int32).toInt = 0 := rfl; omega)) (fun y => z3 (by rw [Int32.le_iff_toInt_le] at y; rw [Int32.lt_iff_toInt_lt]; have : (nI 17).toInt = 17 := rfl; have : (16 : Int32).toInt = 16 := rfl; omega)) (by decide)
          have ht1 : 1 ≤ t := Decidable.byContradiction fun y => z1 (by rw [show t = 0 by omega]; decide)
          have c9 := hc5.2.2.2.2.2.2.2.2
          obtain ⟨y1, y2⟩ := c257 (N := N) (l1 := nI e) (l2 := vs 0) (l3 := vs 1) (l4 := vs 2) (l5 := vs 3) (l6 := v) (l7 := nI t) r8.2.1.1.1.1 hu r8.2.1.1.1.2.2.2.2.1 r8.2.2.2.1.2.1 c9.1 c9.2.1 hK8
          rw [eh, e1]
          have tt := s_cmf (X := B_MRunner_emits_257 N 611 (nI e) (vs 0) (vs 1) (vs 2) (vs 3) v (nI t) (atB B4 (r + 2))) (j3 := r + 2) hF (show b3 + 1 ≤ b3 + 2 by omega) r8 x1 (fun qq => by
            obtain ⟨B5, w1, w2, w3, w4, w5, w6', w7, w8', w9, w10, w11, w12⟩ := y1 qq
            refine ⟨B5, w1, w2, w3, w4.trans r8.2.2.2.1.1, crow.mk hF.1 hF.2.2.2.2.2.2.2.2 (.inr (.inr (.inr (.inr (.inl ⟨e, t, he, ht1, by omega, x2, w5, x3, w6', x4, x5.trans w7.symm, ?_, fun k hk h4 => ?_⟩)))))⟩
            · rw [← r8.2.1.1.2.2.2.1.2.2.1]
              exact w8'
            · have hvk : B5.D 612 (12 * (K0 + mk) + (4 + k)) = vs k := by
                have hc : k = 0 ∨ k = 1 ∨ k = 2 ∨ k = 3 := by omega
                rcases hc with rfl | rfl | rfl | rfl
                · exact w9
                · exact w10
                · exact w11
                · exact w12
              refine ⟨?_, fun y => ?_⟩
              · rw [x6 k hk, sk k hk]
                exact hvk.symm
              · dsimp only
                rw [hvk]
                exact q4.2 k hk y) y2
          exact tt.imp (fun t => t.pre pc) (fun t => t.pre pc)
        · have hz : (if v4 < (1 : Int32) then (0 : Int32) else if (16 : Int32) < v4 then 0 else 1) = 0 := by
            by_cases z1 : v4 < (1 : Int32)
            · rw [if_pos z1]
            · rw [if_neg z1, if_pos (Decidable.byContradiction fun y => z0 ⟨z1, by rw [Int32.lt_iff_toInt_lt] at y; rw [Int32.le_iff_toInt_le]; omega⟩)]
          have hG5 : Gr ((atB B4 (r + 2)).sD 611 10 8) := r8.2.1.1.1.1
          have ef : F_MRunner_fails N 611 8 (atB B4 (r + 2)) = some ((), (atB B4 (r + 2)).sD 611 10 8) := by
            unfold F_MRunner_fails
            rw [ck_t (rS_611 r8.2.1.1.1.1), bnd_t, r8.2.2.2.1.2.1, if_pos rfl, bnd_t]
          rw [hz, if_pos rfl, bC_t ef] at e1
          unfold B_MRunner_emits_257 at e1
          rw [ck_t (rS_611 hG5), bC_t (ev_cmf hG5 (by rw [rds]; decide)), if_neg (by decide)] at e1
          have hla := hc5.1.2.2.1
          refine .inr (SFL.pre pc ⟨1, A', la, z, _, 8, st, mk, by omega, by omega, by have := hc5.2.2.2.2.2.2.1; omega, x1, (x2.mono FRA.ec).exS hc5.1, x3, by decide, x4, x5, hc5.2.2.2.2.1, eh.trans e1, same.sD same.rf (.inl ⟨rfl, by omega⟩), rds, (hc5.2.2.2.2.2.2.2.2.2.2.2.mono (by omega)).cg (fun y _ => x2.1 la y (by unfold EXC; omega)) (fun y _ => rdw (by decide))⟩)
      · rw [bC_t r5, f219 B4 (nI j') v4 v y r10.1 r8 r7 r4] at e1
        exact .inr (SFL.pre pb (SFL.ex g8.2.2.2.2 (by omega) r2 r3 r4 r6 (eh.trans e1) (same.sD same.rf (.inl ⟨rfl, by omega⟩)) (fun x => by rw [rdw (by decide)]) (by rw [rdf (by decide)]; exact r7)))
    · have ny : ¬ y ≤ 0 := fun z => by have h4 := g4; rw [Int32.lt_iff_toInt_lt] at h4; rw [Int32.le_iff_toInt_le] at z; omega
      have y3 : (B3.sD 611 11 (nI j' + 3)).D 611 10 = y := by rw [rdf (by decide)]; exact g7
      rw [bC_t g5] at e1
      unfold B_MRunner_emits_192 at e1
      rw [ck_t (rS_611 g10.1), bnd_t, g8, bnd_t, bnd_t, y3, if_neg ny, f219 (B3.sD 611 11 (nI j' + 3)) (nI j' + 3) 0 v y g10.1 rds y3 g4] at e1
      exact .inr (SFL.pre pa (SFL.ex q6.2.2.2.2 (by omega) g2 g3 g4 g6 (eh.trans e1) (same.sD (same.sD same.rf (.inl ⟨rfl, by omega⟩)) (.inl ⟨rfl, by omega⟩)) (fun x => by rw [rdw (by decide), rdw (by decide)]) (by rw [rdf (by decide)]; exact y3)))
  · obtain ⟨g, hg⟩ : ∃ g, N = g + E 10 e + 1 := ⟨N - 1 - E 10 e, by omega⟩
    have t := q5 g
    rw [← hg] at t
    exact .inr (SFL.pre p0 (t.then (by omega) (fun B3 y1 y2 y3 => ⟨B3, eh.trans y1, same.rf, y3⟩)))
end Par
