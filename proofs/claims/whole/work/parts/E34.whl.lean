/-! ===== while ===== -/
section Par
variable {N p wo inp cs w u ir M K0 : Nat} {s pl : Int32} {ty mn nu cd : Nat → Int32} {E Q : Nat → Nat → Nat} {V : Nat → Nat → Int32} {nL lc : Nat} {lk : Nat → Nat} {hd : Nat → Int32}
theorem uph_e {v : Int32} {x : Nat} : uph hd lc v x = if x = lc then v else hd x := rfl
theorem inn_i {e l : Nat} {v : Int32} (hv : v ≠ nI e) (h : inn (uph hd lc v) (lc + 1) e l) : inn hd lc e l := by
  obtain ⟨h1, h2, h3⟩ := h
  have hl : l ≠ lc := fun z => by
    rw [uph_e, if_pos z] at h2
    exact hv h2
  rw [uph_e, if_neg hl] at h2
  refine ⟨by omega, h2, fun l2 y1 y2 => ?_⟩
  have := h3 l2 y1 (by omega)
  rw [uph_e, if_neg (by omega)] at this
  exact this
theorem inn_o {e l : Nat} {v : Int32} (hv : v ≠ nI e) (h : inn hd lc e l) : inn (uph hd lc v) (lc + 1) e l := by
  obtain ⟨h1, h2, h3⟩ := h
  refine ⟨by omega, by rw [uph_e, if_neg (by omega)]; exact h2, fun l2 y1 y2 => ?_⟩
  by_cases q : l2 = lc
  · rw [uph_e, if_pos q]
    exact hv
  · rw [uph_e, if_neg q]
    exact h3 l2 y1 (by omega)
theorem m1_n {e : Nat} (he : e < 100) : (-1 : Int32) ≠ nI e := fun z => by
  have := congrArg (fun x : Int32 => x < 0) z
  have k : ¬ nI e < (0 : Int32) := nI_nlt (b := 0) (by omega) (by omega)
  exact k (this.mp (by decide))
theorem SIN.li {i a h mk st la z : Nat} {dr : Int32} {A B : Hp} (hF : (FIX N p wo w u K0 M E)) (hI : (SIN p wo inp cs w u ir M ty mn nu cd E Q V nL lc hd K0 i a h A la z B mk st dr)) : (SIN p wo inp cs w u ir M ty mn nu cd E Q V nL (lc + 1) (uph hd lc (-1)) K0 i a h A la z B mk st dr) := by
  obtain ⟨i1, i2, i3, i4, i5⟩ := hI
  have w6 := hF.1.2.2.2.2.2.1
  exact ⟨i1.hq (fun _ _ => rfl) (fun e l y1 y2 => i1.1.2.2.2.2.2.2.2.2.2.1 e l (inn_i (m1_n (by omega)) y1) y2) (i1.2.2.2.hq (fun _ _ => rfl) (fun n y z => by
    rw [uph_e] at z
    split at z
    · exact absurd z (by decide)
    · exact z) (fun e l q y1 y2 y3 y4 => i1.2.2.2.2.2.2 e l q (inn_i (m1_n (by omega)) y1) y2 y3 y4)), i2.hq (fun _ _ => rfl) (fun e l y1 y2 => i2.1.2.2.2.2.2.2.2.2 e l (inn_i (m1_n (by omega)) y1) y2), i3, i4, i5⟩
theorem SIN.lo {i a h mk st la z : Nat} {dr : Int32} {A B : Hp} (hF : (FIX N p wo w u K0 M E)) (hlc : lc < 100) (hI : (SIN p wo inp cs w u ir M ty mn nu cd E Q V nL (lc + 1) (uph hd lc (-1)) K0 i a h A la z B mk st dr)) : (SIN p wo inp cs w u ir M ty mn nu cd E Q V nL lc hd K0 i a h A la z B mk st dr) := by
  obtain ⟨i1, i2, i3, i4, i5⟩ := hI
  have w6 := hF.1.2.2.2.2.2.1
  exact ⟨i1.hq (fun _ _ => rfl) (fun e l y1 y2 => i1.1.2.2.2.2.2.2.2.2.2.1 e l (inn_o (m1_n (by omega)) y1) y2) (i1.2.2.2.hq (fun _ _ => rfl) (fun n y z => by rw [uph_e, if_neg (by omega)]; exact z) (fun e l q y1 y2 y3 y4 => i1.2.2.2.2.2.2 e l q (inn_o (m1_n (by omega)) y1) y2 y3 y4)), i2.hq (fun _ _ => rfl) (fun e l y1 y2 => i2.1.2.2.2.2.2.2.2.2 e l (inn_o (m1_n (by omega)) y1) y2), i3, i4, i5⟩
theorem rep_0f {B : Hp} {o : Orc_RunS} {g : Nat} {l : Int32} (hG : Gr B) (h10 : ¬ B.D 611 10 = 0) : B_MRunner_repeats_7 N o 611 (g + 1) l 0 B = some ((), B) := by
  rw [B_MRunner_repeats_7, if_pos rfl, ck_t (rS_611 hG), bnd_t, if_neg h10]
theorem rep_0 {B : Hp} {o : Orc_RunS} {g m j : Nat} {l dr : Int32} (h : RB B w u ir M ty mn nu) (hs : BS B m 0 dr) (hm : m < M) (hmn : mn m = nI j) : B_MRunner_repeats_7 N o 611 (g + 1) l 0 B = some ((), atB B (j + 1)) := by
  rw [B_MRunner_repeats_7, if_pos rfl, ck_t (rS_611 h.1), bnd_t, hs.2.1, if_pos rfl, bC_t (ev_skp h hm hs.1 hmn)]
theorem s_whl {dp i m j a b c : Nat} (hF : (FIX N p wo w u K0 M E)) (h0 : ty i = 217) (hD : DE ty mn nu cd E nL lc lk hd 0 dp (i + 1) m a b 3) (hc : cd b = 3) (hc1 : cd (b + 1) = nI (c + 2)) (hc2 : cd (b + 2) = 1) (hdp : dp < 20) (h : (SP2 N s pl p wo inp cs w u ir M ty mn nu cd E K0 nL (lc + 1) (uph hd lc (-1)) (dp + 1) m j (b + 3) c)) (hcc : cd c = 2) (hcc1 : cd (c + 1) = nI a) (him : i + 1 < m) (hab : a < b) : (SP0 N s pl p wo inp cs w u ir M ty mn nu cd E K0 nL lc hd dp i j a (c + 2) nL hd) := by
  obtain ⟨⟨j1, rfl, hmj⟩, q1, q2, gB⟩ := h
  refine ⟨by omega, by omega, by omega, fun d Q V A la z B mk st dr hI k1 k2 k3 k4 k5 => ?_⟩
  obtain ⟨d, rfl⟩ : ∃ e, d = e + 1 := ⟨d - 1, by omega⟩
  have hcs : cs ≤ 12000 := hI.1.1.1.2.2.2.2.2.2.2.2
  have lp : ∀ r st, 121 - st ≤ r → ∀ g A la z B V mk dr i0, r + 1 ≤ g → (SIN p wo inp cs w u ir M ty mn nu cd E Q V nL lc hd K0 i0 a 0 A la z B mk st dr) → (SOK N s pl p wo inp cs w u ir M ty mn nu cd E Q V lc hd K0 (B_MRunner_repeats_7 N (X_RunS N (d + 1)) 611 g (nI (i + 1)) 1 B) (j1 + 1) a (c + 2) nL A la z B st) ∨ (SFL N s pl wo (Q 4 0 * Q 5 0) E (V 0 0) lc K0 (B_MRunner_repeats_7 N (X_RunS N (d + 1)) 611 g (nI (i + 1)) 1 B) a (c + 2) A la z B st) := by
    intro r
    induction r with
    | zero =>
      intro st hst g A la z B V mk dr i0 hg hI
      have := hI.2.2.2.2.2.2.2.2.2.2.1
      omega
    | succ r ih =>
      intro st hst g A la z B V mk dr i0 hg hI
      obtain ⟨g, rfl⟩ : ∃ e, g = e + 1 + 1 := ⟨g - 2, by omega⟩
      have hB1 := (hI.to (j := i + 1) hF)
      have e : ∀ v B2, (X_RunE N 50).1 611 (atB B (i + 1)) = some (v, B2) → B_MRunner_repeats_7 N (X_RunS N (d + 1)) 611 (g + 1 + 1) (nI (i + 1)) 1 B = (if v = (0 : Int32) then B_MRunner_repeats_34 N (X_RunS N (d + 1)) 611 (fun l1 l2 H => B_MRunner_repeats_7 N (X_RunS N (d + 1)) 611 (g + 1) l1 l2 H) (nI (i + 1)) B2 else bnd (B2.D 611 10) fun x52 => if x52 = (0 : Int32) then B_MRunner_repeats_35 N (X_RunS N (d + 1)) 611 (fun l1 l2 H => B_MRunner_repeats_7 N (X_RunS N (d + 1)) 611 (g + 1) l1 l2 H) (nI (i + 1)) 1 B2 else B_MRunner_repeats_34 N (X_RunS N (d + 1)) 611 (fun l1 l2 H => B_MRunner_repeats_7 N (X_RunS N (d + 1)) 611 (g + 1) l1 l2 H) (nI (i + 1)) B2) := by
        intro v B2 e1
        rw [B_MRunner_repeats_7, if_neg (by decide), ck_t (rS_611 hI.2.1.1.1.1), bnd_t, show B.sD 611 11 (nI (i + 1)) = atB B (i + 1) from rfl, bC_t e1]
      rcases s_val (N := N) (s := s) (pl := pl) hF hD hB1 (by omega) (by omega) (by omega) with ⟨n, A2, B2, v, dr2, g1, g2, g3, g4, g5, g6, g7⟩ | ⟨n, A2, B2, v, y, j', g1, g2, g3, g4, g5, g6, g7, g8, g9, g10⟩
      · obtain ⟨r1, r2⟩ := s_jf (N := N) (s := s) (pl := pl) hF g7 g4 hc hc1 (by omega)
        have e1 := e v B2 g5
        have hr2 := g7.2.1.1.1
        have p1 : ∀ x, (PRE N s pl wo (Q 4 0 * Q 5 0) E lc V V a b A la z A2 la z B B2 x x) := fun x => ⟨n, by omega, by omega, g2, (g3.mono FRA.ea).exS hI.2.2.2.2.1, (atB_s.tr g6).mono FRB.eb, fun _ _ _ => rfl⟩
        by_cases q : v = 0
        · obtain ⟨A3, x1, x2, x3⟩ := r1 q
          unfold B_MRunner_repeats_34 B_MRunner_repeats_35 B_MRunner_repeats_52 B_MRunner_repeats_67 B_MRunner_repeats_82 B_MRunner_repeats_83 at e1
          rw [if_pos q, ck_t (rS_611 hr2.1), bnd_t, g7.2.2.2.1.2.1, if_pos (by decide), if_pos rfl, if_pos rfl, if_pos rfl] at e1
          dsimp only at e1
          rw [rep_0 hr2 g7.2.2.2.1 (by omega) hmj] at e1
          have p2 : (PRE N s pl wo (Q 4 0 * Q 5 0) E lc V V b (c + 2) A2 la z A3 la z B2 B2 st st) := ⟨1, by omega, by omega, x1, (x2.mono FRA.ea).exS g7.2.2.2.2.1, same.rf, fun _ _ _ => rfl⟩
          exact .inl ⟨A3, la, z, _, V, st, mk, dr2, ((p1 st).tr p2).tr (PRE.at x3.2.2.2.2), e1, x3.to hF⟩
        · obtain ⟨A3, x1, x2, x3⟩ := r2 q
          rw [if_neg q, bnd_t, g7.2.2.2.1.2.1, if_pos (show (0 : Int32) = 0 from rfl)] at e1
          unfold B_MRunner_repeats_35 at e1
          rw [ck_t (rS_611 hr2.1), bnd_t, g7.2.2.2.1.2.1, if_pos (show (0 : Int32) ≤ 0 by decide), if_neg (show ¬ (1 : Int32) = 0 by decide)] at e1
          have p2 : ∀ x, (PRE N s pl wo (Q 4 0 * Q 5 0) E lc V V b (b + 2) A2 la z A3 la z B2 B2 x x) := fun x => ⟨1, by omega, by omega, x1, (x2.mono FRA.ea).exS g7.2.2.2.2.1, same.rf, fun _ _ _ => rfl⟩
          have c8 := x3.2.2.2.2.2.2.2.2.2.2.2.2.2.2.1
          have c7 := x3.2.2.2.2.2.2.2.2.2.2.1
          by_cases qs : st < 120
          · obtain ⟨A4, y1, y2, y3⟩ := x3.step1 (N := N) (s := s) (pl := pl) hF hc2 qs (by omega)
            have hr3 := y3.2.1.1.1
            have sB : same (FRB E) B2 (B2.sD 611 8 (nI (st + 1))) := same.sD same.rf (.inl ⟨rfl, by omega⟩)
            have p3 : (PRE N s pl wo (Q 4 0 * Q 5 0) E lc V V (b + 2) (b + 3) A3 la z A4 la z B2 (B2.sD 611 8 (nI (st + 1))) (st + 1) (st + 1)) := ⟨1, by omega, by omega, y1, (y2.mono FRA.eo).exS x3.2.2.2.2.1, sB, fun _ _ _ => rfl⟩
            rw [bC_t (ev_cnt hr2.1 c8 qs)] at e1
            unfold B_MRunner_repeats_52 at e1
            rw [if_neg (show ¬ (1 : Int32) = 0 by decide), ck_t (rS_611 hr3.1), bnd_t, y3.2.2.2.1.2.1, if_pos (show (0 : Int32) = 0 from rfl)] at e1
            have p4 := (p1 (st + 1)).tr ((p2 (st + 1)).tr p3)
            rcases gB d Q V A4 la z _ mk (st + 1) dr2 (y3.li hF) (by omega) (by omega) (by omega) k4 (by omega) with t | t
            · obtain ⟨A5, la5, z5, B5, V5, st5, mk5, dr5, t1, t2, t3⟩ := t
              have t4 := t3.lo hF (by omega)
              obtain ⟨A6, u1, u2, u3⟩ := s_jp (N := N) (s := s) (pl := pl) hF t4 hcc hcc1 (by omega)
              rw [bC_t t2] at e1
              unfold B_MRunner_repeats_67 B_MRunner_repeats_83 at e1
              rw [if_neg (show ¬ (1 : Int32) = 0 by decide), ck_t (rS_611 t4.2.1.1.1.1), bnd_t, t4.2.2.2.1.2.1, if_pos (show (0 : Int32) = 0 from rfl)] at e1
              obtain ⟨n6, w1, w2, w3, w4, w5, w6⟩ := p4.tr (t1.up (Nat.le_succ lc))
              have v0 : V5 0 0 = V 0 0 := by rw [w6 0 (by decide) (by decide)]
              have p5 : (PRE N s pl wo (Q 4 0 * Q 5 0) E lc V V5 a a A la z A6 la5 z5 B B5 st st5) := ⟨n6 + 1, by omega, by omega, w3.tr u1, w4.tr ((u2.mono FRA.ea).exS t4.2.2.2.2.1), w5, w6⟩
              rw [e1]
              rcases ih st5 (by omega) (g + 1) A6 la5 z5 B5 V5 mk5 dr5 _ (by omega) u3 with x | x
              · exact .inl (x.pre p5)
              · rw [v0] at x
                exact .inr (x.pre p5)
            · refine .inr (SFL.pre (V := V) (V1 := V) (st1 := st + 1) (a1 := b + 3) ?_ ((t.up (Nat.le_succ lc)).then (by omega) (fun B5 u1 u2 u3 => ⟨B5, ?_, same.rf, u3⟩)))
              · obtain ⟨n6, w1, w2, w3, w4, w5, w6⟩ := p4
                exact ⟨n6, by omega, by omega, w3, w4, w5, w6⟩
              · rw [e1, bC_t u1]
                unfold B_MRunner_repeats_67 B_MRunner_repeats_82 B_MRunner_repeats_83
                have hG5 := (RBf hF y3.2.1.1.1 u3).1
                have n5 : ¬ B5.D 611 10 = 0 := fun z => by rw [z] at u2; exact absurd u2 (by decide)
                rw [if_neg (show ¬ (1 : Int32) = 0 by decide), ck_t (rS_611 hG5), bnd_t, if_neg n5]
                exact rep_0f hG5 n5
          · have : st = 120 := by omega
            subst this
            have sB : same (FRB E) B2 ((B2.sD 611 10 5).sD 611 8 (nI 121)) := same.sD (same.sD same.rf (.inl ⟨rfl, by omega⟩)) (.inl ⟨rfl, by omega⟩)
            have hG5 : Gr ((B2.sD 611 10 5).sD 611 8 (nI 121)) := hr2.1
            have n5 : ¬ ((B2.sD 611 10 5).sD 611 8 (nI 121)).D 611 10 = 0 := by rw [rdf (by decide), rds]; decide
            rw [bC_t (ev_cnf hr2.1 c8 g7.2.2.2.1.2.1)] at e1
            unfold B_MRunner_repeats_52 B_MRunner_repeats_67 B_MRunner_repeats_82 B_MRunner_repeats_83 at e1
            rw [if_neg (show ¬ (1 : Int32) = 0 by decide), ck_t (rS_611 hG5), bnd_t, if_neg n5, if_neg (show ¬ (1 : Int32) = 0 by decide), ck_t (rS_611 hG5), bnd_t, if_neg n5] at e1
            dsimp only at e1
            rw [rep_0f hG5 n5] at e1
            exact .inr (SFL.pre ((p1 120).tr (p2 120)) (x3.over hc2 (by omega) e1 same.rf sB (by omega)))
      · have e1 := e v B2 g5
        have n10 : ¬ B2.D 611 10 = 0 := fun z => by rw [g7] at z; rw [z] at g4; exact absurd g4 (by decide)
        have n10' : ¬ B2.D 611 10 ≤ 0 := fun z => by rw [g7] at z; have h4 := g4; rw [Int32.lt_iff_toInt_lt] at h4; rw [Int32.le_iff_toInt_le] at z; omega
        have e34 : B_MRunner_repeats_34 N (X_RunS N (d + 1)) 611 (fun l1 l2 H => B_MRunner_repeats_7 N (X_RunS N (d + 1)) 611 (g + 1) l1 l2 H) (nI (i + 1)) B2 = some ((), B2) := by
          unfold B_MRunner_repeats_34 B_MRunner_repeats_35
          rw [ck_t (rS_611 g10.1), bnd_t, if_neg n10']
        rw [bnd_t, if_neg n10, e34, ite_self] at e1
        exact .inr (SFL.pre (PRE.at hI.2.2.2.2) (SFL.ex hB1.2.2.2.2 (by omega) g2 g3 g4 g6 e1 same.rf (fun _ => rfl) g7))
  have f3 := hF.2.2.1
  have hB1 := (hI.to (j := i + 1) hF)
  have e : dsp N (X_RunS N (d + 1)) B = B_MRunner_repeats_7 N (X_RunS N (d + 1)) 611 N (nI (i + 1)) 1 (atB B (i + 1)) := by
    rw [dsp_h hI.2.1.1.1 (by omega) hI.2.2.2.1.1, h0, dsq_217]
    unfold F_MRunner_repeats
    rw [ck_t (rS_611 hB1.2.1.1.1.1), bnd_t, hB1.2.2.2.1.1]
  rw [e]
  rcases lp 121 st (by omega) N A la z _ V mk dr _ (by omega) hB1 with x | x
  · exact .inl (x.pre (PRE.at hI.2.2.2.2))
  · exact .inr (x.pre (PRE.at hI.2.2.2.2))
end Par
