/-! ===== put ===== -/
section Par
variable {N p wo inp cs w u ir M K0 : Nat} {s pl : Int32} {ty mn nu cd : Nat → Int32} {E Q : Nat → Nat → Nat} {V : Nat → Nat → Int32} {nL lc : Nat} {lk : Nat → Nat} {hd : Nat → Int32}
theorem s_pt {dp i m q a b b2 c x : Nat} {k : Nat} (hF : (FIX N p wo w u K0 M E)) (hlk : ∀ n, n < nL → lk n = 4 → hd (100 + n) = 1004) (hk4 : E 6 x = 4 → k = 4) (h0 : ty i = 226) (hdp : dp < 20) (hD : DE ty mn nu cd E nL lc lk hd 0 (dp + 1) (i + 2) m a b 4) (hmc : mn (m + 1) = nI c) (hmx : mn (m + 3) = nI x) (hx : mOf E c x) (hD2 : DE ty mn nu cd E nL lc lk hd 0 dp (m + 5) q b b2 k) (h43 : E 6 x = 1 → cd b2 = 43) (c0 : cd (b2 + hld (E 6 x)) = 24) (c1 : cd (b2 + hld (E 6 x) + 1) = nI c) (c2 : cd (b2 + hld (E 6 x) + 2) = nI x) (him : i + 2 < m) (hab : a < b) (hmq : m + 5 < q) (hbb : b < b2) : (SP0 N s pl p wo inp cs w u ir M ty mn nu cd E K0 nL lc hd dp i (q + 1) a (b2 + hld (E 6 x) + 3) nL hd) := by
  refine ⟨by omega, by omega, by omega, fun d Q V A la z B mk st dr hI k1 k2 k3 k4 k5 => ?_⟩
  obtain ⟨xE, x48, c16⟩ := mOf_lt hF.1 hx
  have kind := hF.1.2.2.2.2.1 x xE
  have hB1 := hI.to (j := i + 1) hF
  have hB2 := hB1.to (j := i + 2) hF
  have hK8 := hF.2.2.2.2.2.2.2.1
  have hM := hI.2.1.1.1.2.2.2.2.2.2.2.1
  rcases s_val (N := N) (s := s) (pl := pl) hF hD hB2 (by omega) (by omega) (by omega) with ⟨n, A2, B2, v, dr2, g1, g2, g3, g4, g5, g6, g7⟩ | ⟨n, A2, B2, v, y, j', g1, g2, g3, g4, g5, g6, g7, g8, g9, g10⟩
  · have e := (cm_head (o := X_RunS N d) hI.2.1.1.1 hI.2.2.2.1 (by omega) h0 (by decide) g5 g7.2.2.2.1.1).2.2 rfl
    have g8 := g7.to (j := m + 1) hF
    have g9 := g8.to (j := m + 5) hF
    have hr8 := g8.2.1.1.1
    have hr9 := g9.2.1.1.1
    obtain ⟨t0, t1, t2, t3, t4, t5, t6⟩ := hr8.T
    obtain ⟨u0, -⟩ := hr9.T
    have hT := hr9.2.1
    rw [rf_t hr8.2.2.2.1, ck_t t0, rf_t t5, bnd_t, g8.2.2.2.1.1, ar_t t6, rdI (show m + 1 < 6002 by omega) (by decide), (hr8.2.2.2.2.2.2.2.2 (m + 1) (by omega)).2.1, hmc, rf_t hr8.2.2.2.1, ck_t t0, rf_t t5, bnd_t, ar_t t6, show nI (m + 1) + (2 : Int32) = nI (m + 3) from nI_ad (m + 1) 2, rdI (show m + 3 < 6002 by omega) (by decide), (hr8.2.2.2.2.2.2.2.2 (m + 3) (by omega)).2.1, hmx, bnd_t, show nI (m + 1) + (4 : Int32) = nI (m + 5) from nI_ad (m + 1) 4, bnd_t, show (atB B2 (m + 1)).sD 611 11 (nI (m + 5)) = atB (atB B2 (m + 1)) (m + 5) from rfl, bnd_t, g9.2.2.2.1.2.1, if_pos (show (0 : Int32) ≤ 0 by decide), rf_t hr9.2.2.2.1, ck_t u0, rf_t (TP_19 hT), ar_t (TA_19 hT), rdI x48 (by decide), g9.2.1.2.2.2.1 x xE] at e
    have p1 : (PRE N s pl wo (Q 4 0 * Q 5 0) E lc V V a b A la z A2 la z B (atB (atB B2 (m + 1)) (m + 5)) st st) := (((PRE.at hI.2.2.2.2).tr (PRE.at hB1.2.2.2.2)).tr ((PRE.ex hB2.2.2.2.2 g1 g2 g3 g6).tr (PRE.at g7.2.2.2.2))).tr (PRE.at g8.2.2.2.2)
    rcases s_val (N := N) (s := s) (pl := pl) hF hD2 g9 (by omega) (by omega) (by omega) with ⟨n3, A3, B3, v3, dr3, r1, r2, r3, r4, r5, r6, r7⟩ | ⟨n3, A3, B3, v3, y, j', r1, r2, r3, r4, r5, r6, r7, r8, r9, r10⟩
    · obtain ⟨n4, A4, s1, s2, s3, s4, s5⟩ := s_hold (N := N) (s := s) (pl := pl) (k := E 6 x) hF r7 (by decide) r4 h43 (by omega)
      have v0 : A4.D 119 0 = v := by rw [s3.1 119 0 (by unfold EXA; omega), r3.1 119 0 (by unfold EXA; omega)]; exact g4
      have hc5 := s5.2.2.2.2
      have i1 := s5.1
      obtain ⟨o, x1, x2, x3, x4, x5, x6⟩ := op_24 (N := N) (s := s) (pl := pl) (h := 0) ((i1.1.at_cd (by omega)).trans c1) ((i1.1.at_cd (by omega)).trans c2) hc5.1 hc5.2.1 hc5.2.2.1 (fun _ => by omega) hc5.2.2.2.1 hc5.2.2.2.2.1 i1.1.1 s5.2.2.1 (by omega) i1.1.2.1 (by decide) ((i1.1.at_cd (by omega)).trans c0)
      rw [v0] at x3
      rw [show (0 : Nat) + 1 = 1 from rfl, s4] at x6
      have c9 := hc5.2.2.2.2.2.2.2.2
      rw [bC_t r5, bC_t (ev_gvn (by omega))] at e
      unfold B_MRunner_commands_107 at e
      obtain ⟨y1, y2⟩ := c149 (N := N) (t := 226) (l2 := v) (l3 := nI c) (l4 := nI x) (l5 := if E 6 x = 1 then byt v3 else v3) s5.2.1.1.1.1 s5.2.2.2.1.1 s5.2.2.2.1.2.1 c9.1 c9.2.1 hK8
      rw [e]
      have p0 : (PRE N s pl wo (Q 4 0 * Q 5 0) E lc V V a (b2 + hld (E 6 x)) A la z A4 la z B B3 st st) := (p1.tr (PRE.ex g9.2.2.2.2 r1 r2 r3 r6)).tr (PRE.ex r7.2.2.2.2 s1 s2 s3 same.rf)
      have t := s_cmf (X := B_MRunner_commands_149 N 611 226 v (nI c) (nI x) (if E 6 x = 1 then byt v3 else v3) B3) (j3 := q + 1) hF (show b2 + hld (E 6 x) + 1 ≤ b2 + hld (E 6 x) + 3 by omega) s5 x1 (fun q => by
        obtain ⟨B5, w1, w2, w3, w4, w5, w6, w7, w8, w9⟩ := y1 q
        exact ⟨B5, w1, w2, w3, w4, crow.mk hF.1 hF.2.2.2.2.2.2.2.2 (.inr (.inr (.inr (.inl ⟨c, x, hx, x2, w5, x3.trans w6.symm, x4, w7, x5, w8, x6.trans w9.symm, fun y => by
          dsimp only
          rw [w9, if_neg (by omega)]
          exact v4_ok hF.1 hF.2.1 g9.1.2.2.2 hlk hD2 (hk4 y) g9.2.1.1 g9.2.2.2.1 (by omega) r5 r7.2.2.2.1.2.1⟩))))⟩) y2
      exact t.imp (fun t => t.pre p0) (fun t => t.pre p0)
    · rw [bC_t r5, bC_t (ev_gvn (by omega))] at e
      unfold B_MRunner_commands_107 at e
      rw [c149f (v := nI j') r10.1 r8 (by rw [r7]; exact r4)] at e
      exact .inr (SFL.pre p1 (SFL.ex g9.2.2.2.2 (by omega) r2 r3 r4 r6 e (same.sD same.rf (.inl ⟨rfl, by omega⟩)) (fun x => by rw [rdw (by decide)]) (by rw [rdf (by decide)]; exact r7)))
  · have e := (cm_head (o := X_RunS N d) hI.2.1.1.1 hI.2.2.2.1 (by omega) h0 (by decide) g5 g8).2.2 rfl
    have g11 := g10.ex (atB_s (i := j' + 1))
    obtain ⟨t0, t1, t2, t3, t4, t5, t6⟩ := g11.T
    have w10 : (atB (atB B2 (j' + 1)) (j' + 1 + 4)).D 611 10 = y := by
      show (((B2.sD 611 11 (nI (j' + 1))).sD 611 11 (nI (j' + 1 + 4))).D 611 10) = _
      rw [rdf (by decide), rdf (by decide)]
      exact g7
    have ny : ¬ y ≤ 0 := fun z => by have h4 := g4; rw [Int32.lt_iff_toInt_lt] at h4; rw [Int32.le_iff_toInt_le] at z; omega
    rw [rf_t g11.2.2.2.1, ck_t t0, rf_t t5, bnd_t, show (atB B2 (j' + 1)).D 611 11 = nI (j' + 1) from rds, ar_t t6, rdI (show j' + 1 < 6002 by omega) (by decide), rf_t g11.2.2.2.1, ck_t t0, rf_t t5, bnd_t, ar_t t6, show nI (j' + 1) + (2 : Int32) = nI (j' + 1 + 2) from nI_ad (j' + 1) 2, rdI (show j' + 1 + 2 < 6002 by omega) (by decide), bnd_t, show nI (j' + 1) + (4 : Int32) = nI (j' + 1 + 4) from nI_ad (j' + 1) 4, bnd_t, show (atB B2 (j' + 1)).sD 611 11 (nI (j' + 1 + 4)) = atB (atB B2 (j' + 1)) (j' + 1 + 4) from rfl, bnd_t, w10, if_neg ny] at e
    unfold B_MRunner_commands_107 at e
    rw [c149f (v := nI (j' + 1 + 4)) (show Gr (atB (atB B2 (j' + 1)) (j' + 1 + 4)) from g10.1) rds (by rw [w10]; exact g4)] at e
    refine .inr (SFL.pre ((PRE.at hI.2.2.2.2).tr (PRE.at hB1.2.2.2.2)) (SFL.ex hB2.2.2.2.2 (by omega) g2 g3 g4 g6 e (same.sD ((atB_s.tr atB_s).mono FRB.eb) (.inl ⟨rfl, by omega⟩)) (fun x => ?_) (by rw [rdf (by decide)]; exact w10)))
    show ((((B2.sD 611 11 (nI (j' + 1))).sD 611 11 (nI (j' + 1 + 4))).sD 611 11 _).D 612 x) = _
    rw [rdw (by decide), rdw (by decide), rdw (by decide)]
end Par
