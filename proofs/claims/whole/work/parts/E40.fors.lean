/-! ===== for: the statements ===== -/
section Par
variable {N p wo inp cs w u ir M K0 : Nat} {s pl : Int32} {ty mn nu cd : Nat → Int32} {E Q : Nat → Nat → Nat} {V : Nat → Nat → Int32} {nL lc : Nat} {lk : Nat → Nat} {hd : Nat → Int32}
theorem ev_skp0 {B : Hp} {i : Nat} (h : RB B w u ir M ty mn nu) (hi : i < M) (h11 : B.D 611 11 = nI i) : F_MRunner_skips N 611 B = some ((), B.sD 611 11 (mn i + 1)) := by
  obtain ⟨t0, t1, t2, t3, t4, t5, t6⟩ := h.T
  have hM := h.2.2.2.2.2.2.2.1
  unfold F_MRunner_skips
  rw [ck_t (rS_611 h.1), rf_t h.2.2.2.1, ck_t t0, rf_t t5, bnd_t, h11, ar_t t6, rdI (show i < 6002 by omega) (by decide), (h.2.2.2.2.2.2.2.2 i hi).2.1, bnd_t]
theorem FRA.e2 {base b : Nat} (hb : b = 121 ∨ b = 122) : ∀ a f, EXO b lc a f → FRA wo base E lc a f := fun a f y => by
  unfold EXO at y
  unfold FRA
  rcases y with y | y
  · exact .inl ⟨y.1, by omega⟩
  · rcases hb with rfl | rfl
    · exact .inr (.inr (.inr (.inl ⟨y.1, by omega⟩)))
    · exact .inr (.inr (.inr (.inr (.inl ⟨y.1, by omega⟩))))
/-- the head of a for -/
theorem gs_head {B : Hp} {o : Orc_RunS} {i q : Nat} {dr : Int32} (h : RB B w u ir M ty mn nu) (hs : BS B i 0 dr) (h2 : mn (i + 1) = nI nL) (h3 : mn (i + 3) = nI q) (h0 : ty i = 218) (hi : i + 4 < M) : dsp N o B = (if ty (i + 4) = (220 : Int32) then B_MRunner_goes_61 N o 611 (nI nL) (nI q) 1 (atB (atB B (i + 1)) (i + 4)) else B_MRunner_goes_61 N o 611 (nI nL) (nI q) 0 (atB (atB B (i + 1)) (i + 4))) := by
  have h1 := h.ex (atB_s (i := i + 1))
  have hs1 := atB_S (j := i + 1) hs
  have h4 := h1.ex (atB_s (i := i + 4))
  have hs4 := atB_S (j := i + 4) hs1
  obtain ⟨t0, t1, t2, t3, t4, t5, t6⟩ := h1.T
  obtain ⟨u0, u1, u2, u3, u4, u5, u6⟩ := h4.T
  have hM := h.2.2.2.2.2.2.2.1
  rw [dsp_h h (by omega) hs.1, h0, dsq_218]
  unfold F_MRunner_goes
  rw [ck_t (rS_611 h1.1), rf_t h1.2.2.2.1, ck_t t0, rf_t t5, bnd_t, hs1.1, ar_t t6, rdI (show i + 1 < 6002 by omega) (by decide), (h1.2.2.2.2.2.2.2.2 (i + 1) (by omega)).2.1, h2, rf_t h1.2.2.2.1, ck_t t0, rf_t t5, bnd_t, ar_t t6, show nI (i + 1) + (2 : Int32) = nI (i + 3) from nI_ad (i + 1) 2, rdI (show i + 3 < 6002 by omega) (by decide), (h1.2.2.2.2.2.2.2.2 (i + 3) (by omega)).2.1, h3, bnd_t, show nI (i + 1) + (3 : Int32) = nI (i + 4) from nI_ad (i + 1) 3, bnd_t, show (atB B (i + 1)).sD 611 11 (nI (i + 4)) = atB (atB B (i + 1)) (i + 4) from rfl, rf_t h4.2.2.2.1, ck_t u0, rf_t u1, bnd_t, hs4.1, ar_t u2, rdI (show i + 4 < 6002 by omega) (by decide), (h4.2.2.2.2.2.2.2.2 (i + 4) hi).1]
theorem s_forr {dp i j a c q : Nat} (hF : (FIX N p wo w u K0 M E)) (h0 : ty i = 218) (h2 : mn (i + 1) = nI nL) (hn12 : nL < 12) (h3 : mn (i + 3) = nI q) (hq : q < E 4 0) (h4 : ty (i + 4) ≠ 220) (c0 : cd a = 6) (c1 : cd (a + 1) = nI lc) (c2 : cd (a + 2) = 8) (c3 : cd (a + 3) = nI lc) (c4 : cd (a + 4) = nI q) (c5 : cd (a + 5) = nI nL) (c6 : cd (a + 6) = nI (c + 2)) (c7 : cd (a + 7) = 1) (hdp : dp < 20) (h : (SP2 N s pl p wo inp cs w u ir M ty mn nu cd E K0 (nL + 1) (lc + 1) (uph (uph hd lc (-1)) (100 + nL) 1004) (dp + 1) (i + 4) j (a + 8) c)) (hcc : cd c = 2) (hcc1 : cd (c + 1) = nI (a + 2)) : (SP0 N s pl p wo inp cs w u ir M ty mn nu cd E K0 nL lc hd dp i j a (c + 2) nL hd) := by
  have h' := h
  obtain ⟨⟨j1, rfl, hmj⟩, q1, q2, -⟩ := h'
  refine ⟨by omega, by omega, by omega, fun d Q V A la z B mk st dr hI k1 k2 k3 k4 k5 => ?_⟩
  obtain ⟨d, rfl⟩ : ∃ e, d = e + 1 := ⟨d - 1, by omega⟩
  have hN := hF.2.2.1
  have hlc : lc < 21 := by omega
  have hB4 := (hI.to (j := i + 1) hF).to (j := i + 4) hF
  have e := gs_head (N := N) (o := X_RunS N (d + 1)) hI.2.1.1.1 hI.2.2.2.1 h2 h3 h0 (by omega)
  rw [if_neg h4] at e
  unfold B_MRunner_goes_61 B_MRunner_goes_95 at e
  rw [if_pos rfl, ck_t (rS_611 hB4.2.1.1.1.1), bnd_t, hB4.2.2.2.1.1] at e
  obtain ⟨A1, r1, r2, r3, r4⟩ := op_6 (N := N) (s := s) (pl := pl) hlc ((hI.1.1.at_cd (by omega)).trans c1) hI.1.1.1 hI.2.2.1 (by omega) hI.1.1.2.1 ((hI.1.1.at_cd (by omega)).trans c0)
  have hI1 := hB4.ls hF r2 (fun a f y => by unfold EXO at y; omega) r3
  have p0 : (PRE N s pl wo (Q 4 0 * Q 5 0) E lc V V a (a + 2) A la z A1 la z B (atB (atB B (i + 1)) (i + 4)) st st) := ⟨1, by omega, by omega, r1, (r2.mono (FRA.e2 (.inl rfl))).exS hI.2.2.2.2.1, (atB_s.tr atB_s).mono FRB.eb, fun _ _ _ => rfl⟩
  rw [e]
  rcases s_forl (N := N) (s := s) (pl := pl) (d := d) (Q := Q) (ne := 0) (rad := 0) hF (.inl ⟨rfl, c2⟩) c3 c4 c5 c6 c7 hq rfl (fun y => absurd y (by decide)) hn12 hdp h hmj hcc hcc1 k1 k3 k4 k5 (Q 5 1) 0 N st A1 la z _ V mk dr _ (by omega) (by omega) (by omega) hI1 (by rw [r4]; rfl) (fun y => absurd y (by decide)) with x | x
  · exact .inl (x.pre p0)
  · exact .inr (x.pre p0)
theorem s_forn {dp i m j a b c q : Nat} (hF : (FIX N p wo w u K0 M E)) (h0 : ty i = 218) (h2 : mn (i + 1) = nI nL) (hn12 : nL < 12) (h3 : mn (i + 3) = nI q) (hq : q < E 4 0) (h4 : ty (i + 4) = 220) (h18 : E 18 (E 17 0 - 1) / 2 ^ q % 2 = 1) (h21 : E 21 (E 17 0 - 1) / 2 ^ q % 2 = 1) (h5 : E 5 q + 1 < E 5 (q + 1)) (hdp : dp < 20) (hD : DE ty mn nu cd E nL lc lk hd 0 (dp + 1) (i + 6) m a b 2) (c0 : cd b = 7) (c1 : cd (b + 1) = nI lc) (c2 : cd (b + 2) = 6) (c3 : cd (b + 3) = nI lc) (c4 : cd (b + 4) = 9) (c5 : cd (b + 5) = nI lc) (c6 : cd (b + 6) = nI q) (c7 : cd (b + 7) = nI nL) (c8 : cd (b + 8) = nI (c + 2)) (c9 : cd (b + 9) = 1) (h : (SP2 N s pl p wo inp cs w u ir M ty mn nu cd E K0 (nL + 1) (lc + 1) (uph (uph hd lc (-1)) (100 + nL) 1004) (dp + 1) (m + 1) j (b + 10) c)) (hcc : cd c = 2) (hcc1 : cd (c + 1) = nI (b + 4)) (him : i + 6 < m) (hab : a < b) : (SP0 N s pl p wo inp cs w u ir M ty mn nu cd E K0 nL lc hd dp i j a (c + 2) nL hd) := by
  have h' := h
  obtain ⟨⟨j1, rfl, hmj⟩, q1, q2, -⟩ := h'
  refine ⟨by omega, by omega, by omega, fun d Q V A la z B mk st dr hI k1 k2 k3 k4 k5 => ?_⟩
  obtain ⟨d, rfl⟩ : ∃ e, d = e + 1 := ⟨d - 1, by omega⟩
  have hN := hF.2.2.1
  have hlc : lc < 21 := by omega
  have hB1 := hI.to (j := i + 1) hF
  have hB4 := hB1.to (j := i + 4) hF
  have hB6 := hB4.to (j := i + 6) hF
  have e : ∀ v B2 x, (X_RunE N 50).1 611 (atB (atB (atB B (i + 1)) (i + 4)) (i + 6)) = some (v, B2) → Gr B2 → B2.D 611 11 = nI x → dsp N (X_RunS N (d + 1)) B = B_MRunner_goes_104 N (X_RunS N (d + 1)) 611 N (nI nL) (nI q) 1 v (nI (x + 1)) (nI 0) (atB B2 (x + 1)) := by
    intro v B2 x e1 hG h11
    have hG2 : Gr (atB B2 (x + 1)) := hG
    have e := gs_head (N := N) (o := X_RunS N (d + 1)) hI.2.1.1.1 hI.2.2.2.1 h2 h3 h0 (by omega)
    rw [if_pos h4] at e
    unfold B_MRunner_goes_61 B_MRunner_goes_95 at e
    rw [if_neg (show ¬ (1 : Int32) = 0 by decide), ck_t (rS_611 hB4.2.1.1.1.1), bnd_t, hB4.2.2.2.1.1, show nI (i + 4) + (2 : Int32) = nI (i + 6) from nI_ad (i + 4) 2, bnd_t, show (atB (atB B (i + 1)) (i + 4)).sD 611 11 (nI (i + 6)) = atB (atB (atB B (i + 1)) (i + 4)) (i + 6) from rfl, bC_t e1, bnd_t, h11, nI_1, bnd_t, show B2.sD 611 11 (nI (x + 1)) = atB B2 (x + 1) from rfl, ck_t (rS_611 hG2), bnd_t, show (atB B2 (x + 1)).D 611 11 = nI (x + 1) from rds] at e
    exact e
  have m0 : mOf E q (E 5 q) := ⟨hq, by omega, by omega⟩
  have m1 : mOf E q (E 5 q + 1) := ⟨hq, by omega, by omega⟩
  rcases s_val (N := N) (s := s) (pl := pl) hF hD hB6 (by omega) (by omega) (by omega) with ⟨n, A2, B2, v, dr2, g1, g2, g3, g4, g5, g6, g7⟩ | ⟨n, A2, B2, v, y, j', g1, g2, g3, g4, g5, g6, g7, g8, g9, g10⟩
  · have i1 := g7.1
    obtain ⟨A3, r1, r2, r3, r4⟩ := op_7 (N := N) (s := s) (pl := pl) (h := 0) hlc ((i1.1.at_cd (by omega)).trans c1) i1.1.1 g7.2.2.1 (by omega) i1.1.2.1 (by decide) ((i1.1.at_cd (by omega)).trans c0)
    rw [g4] at r4
    have hI3 := g7.ls hF r2 (fun a f y => by unfold EXO at y; omega) r3
    obtain ⟨A4, s1, s2, s3, s4⟩ := op_6 (N := N) (s := s) (pl := pl) hlc ((hI3.1.1.at_cd (by omega)).trans c3) hI3.1.1.1 hI3.2.2.1 (by omega) hI3.1.1.2.1 ((hI3.1.1.at_cd (by omega)).trans c2)
    have hI4 := (hI3.ls hF s2 (fun a f y => by unfold EXO at y; omega) s3).to (j := m + 1) hF
    have p0 : (PRE N s pl wo (Q 4 0 * Q 5 0) E lc V V a (b + 4) A la z A4 la z B (atB B2 (m + 1)) st st) := ⟨n + 1 + 1, by omega, by omega, (g2.tr r1).tr s1, (((g3.mono FRA.ea).exS hI.2.2.2.2.1).tr ((r2.mono (FRA.e2 (.inr rfl))).exS g7.2.2.2.2.1)).tr ((s2.mono (FRA.e2 (.inl rfl))).exS hI3.2.2.2.2.1), ((((atB_s.tr atB_s).tr atB_s).tr g6).tr atB_s).mono FRB.eb, fun _ _ _ => rfl⟩
    rw [e v B2 m g5 g7.2.1.1.1.1 g7.2.2.2.1.1]
    rcases s_forl (N := N) (s := s) (pl := pl) (d := d) (Q := Q) (ne := 1) (rad := v) hF (.inr ⟨rfl, c4⟩) c5 c6 c7 c8 c9 hq rfl (fun _ => ⟨m0, m1, h18, h21⟩) hn12 hdp h hmj hcc hcc1 k1 k3 k4 k5 (Q 5 1) 0 N st A4 la z _ V mk dr2 _ (by omega) (by omega) (by omega) hI4 (by rw [s4]; rfl) (fun _ => by rw [s2.1 122 lc (by unfold EXO; omega)]; exact r4) with x | x
    · exact .inl (x.pre p0)
    · exact .inr (x.pre p0)
  · have n5 : ¬ (atB B2 (j' + 1)).D 611 10 = 0 := fun z => by
      rw [show (atB B2 (j' + 1)).D 611 10 = B2.D 611 10 from rdf (by decide), g7] at z
      rw [z] at g4
      exact absurd g4 (by decide)
    have hr5 := (g10.ex (atB_s (i := j' + 1))).ex (atB_s (i := j' + 1))
    obtain ⟨N', hN'⟩ : ∃ n, N = n + 1 := ⟨N - 1, by omega⟩
    have e1 := e v B2 j' g5 g10.1 g8
    have e2 : B_MRunner_goes_104 N (X_RunS N (d + 1)) 611 N (nI nL) (nI q) 1 v (nI (j' + 1)) (nI 0) (atB B2 (j' + 1)) = B_MRunner_goes_234 N (X_RunS N (d + 1)) 611 (nI (j' + 1)) (atB B2 (j' + 1)) := by
      have := gs_stop (N := N) (o := X_RunS N (d + 1)) (x := 0) (g := N') (l1 := nI nL) (l2 := nI q) (l3 := 1) (l4 := v) (l5 := nI (j' + 1)) (B := atB B2 (j' + 1)) g10.1 (by omega) (.inr n5)
      rw [← hN'] at this
      exact this
    rw [e2] at e1
    unfold B_MRunner_goes_234 at e1
    rw [ck_t (rS_611 (g10.ex (atB_s (i := j' + 1))).1), bnd_t, show (atB B2 (j' + 1)).sD 611 11 (nI (j' + 1)) = atB (atB B2 (j' + 1)) (j' + 1) from rfl, bC_t (ev_skp0 hr5 (show j' + 1 < M by omega) rds)] at e1
    refine .inr (SFL.pre (((PRE.at hI.2.2.2.2).tr (PRE.at hB1.2.2.2.2)).tr (PRE.at hB4.2.2.2.2)) (SFL.ex hB6.2.2.2.2 (by omega) g2 g3 g4 g6 e1 (same.sD ((atB_s.tr atB_s).mono FRB.eb) (.inl ⟨rfl, by omega⟩)) (fun x => ?_) ?_))
    · show ((((B2.sD 611 11 (nI (j' + 1))).sD 611 11 (nI (j' + 1))).sD 611 11 (mn (j' + 1) + 1)).D 612 x) = _
      rw [rdw (by decide), rdw (by decide), rdw (by decide)]
    · show ((((B2.sD 611 11 (nI (j' + 1))).sD 611 11 (nI (j' + 1))).sD 611 11 (mn (j' + 1) + 1)).D 611 10) = _
      rw [rdf (by decide), rdf (by decide), rdf (by decide)]
      exact g7
end Par
