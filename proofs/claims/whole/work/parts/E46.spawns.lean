/-! ===== spawn: the two statements ===== -/
section Par
variable {N p wo inp cs w u ir M K0 : Nat} {s pl : Int32} {ty mn nu cd : Nat → Int32} {E Q : Nat → Nat → Nat} {V : Nat → Nat → Int32} {nL lc : Nat} {lk : Nat → Nat} {hd : Nat → Int32}
theorem sp_head {B : Hp} {o : Orc_RunS} {i f : Nat} {dr : Int32} (h : RB B w u ir M ty mn nu) (hs : BS B i 0 dr) (h0 : ty i = 222) (hm : mn (i + 1) = nI f) (hi : i + 2 < M) : dsp N o B = (if ty (i + 2) = (40 : Int32) then B_MRunner_spawns_63 N 611 N (nI f) 0 0 0 0 0 0 1 (atB (atB B (i + 1)) (i + 2)) else B_MRunner_spawns_63 N 611 N (nI f) 0 0 0 0 0 0 0 (atB (atB B (i + 1)) (i + 2))) := by
  have h1 := h.ex (atB_s (i := i + 1))
  have hs1 := atB_S (j := i + 1) hs
  have h2 := h1.ex (atB_s (i := i + 2))
  have hs2 := atB_S (j := i + 2) hs1
  obtain ⟨t0, t1, t2, t3, t4, t5, t6⟩ := h1.T
  obtain ⟨u0, u1, u2, u3, u4, u5, u6⟩ := h2.T
  have hM := h.2.2.2.2.2.2.2.1
  rw [dsp_h h (by omega) hs.1, h0, dsq_222]
  unfold F_MRunner_spawns B_MRunner_spawns_61
  rw [ck_t (rS_611 h1.1), rf_t h1.2.2.2.1, ck_t t0, rf_t t5, bnd_t, hs1.1, ar_t t6, rdI (show i + 1 < 6002 by omega) (by decide), (h1.2.2.2.2.2.2.2.2 (i + 1) (by omega)).2.1, hm, bnd_t, nI_1, bnd_t, show (atB B (i + 1)).sD 611 11 (nI (i + 1 + 1)) = atB (atB B (i + 1)) (i + 2) from rfl, rf_t h2.2.2.2.1, ck_t u0, rf_t u1, bnd_t, hs2.1, ar_t u2, rdI (show i + 2 < 6002 by omega) (by decide), (h2.2.2.2.2.2.2.2.2 (i + 2) hi).1]
theorem s_sp0 {dp i a f : Nat} (hF : (FIX N p wo w u K0 M E)) (h0 : ty i = 222) (hm : mn (i + 1) = nI f) (hf : f < E 15 0) (h2 : ty (i + 2) = 59) (c0 : cd a = 20) (c1 : cd (a + 1) = nI f) (c2 : cd (a + 2) = 0) : (SP0 N s pl p wo inp cs w u ir M ty mn nu cd E K0 nL lc hd dp i (i + 3) a (a + 3) nL hd) := by
  refine ⟨by omega, by omega, by omega, fun d Q V A la z B mk st dr hI k1 k2 k3 k4 k5 => ?_⟩
  have hB1 := hI.to (j := i + 1) hF
  have hB2 := hB1.to (j := i + 2) hF
  have hK8 := hF.2.2.2.2.2.2.2.1
  have hN := hF.2.2.1
  have e := sp_head (N := N) (o := X_RunS N d) hI.2.1.1.1 hI.2.2.2.1 h0 hm (by omega)
  obtain ⟨g, hg⟩ : ∃ g, N = g + 1 := ⟨N - 1, by omega⟩
  have e1 : B_MRunner_spawns_63 N 611 N (nI f) 0 0 0 0 0 0 0 (atB (atB B (i + 1)) (i + 2)) = B_MRunner_spawns_234 N 611 (nI f) 0 0 0 0 0 0 (atB (atB B (i + 1)) (i + 2)) := by
    have : ∀ n, B_MRunner_spawns_63 N 611 (n + 1) (nI f) 0 0 0 0 0 0 0 (atB (atB B (i + 1)) (i + 2)) = B_MRunner_spawns_234 N 611 (nI f) 0 0 0 0 0 0 (atB (atB B (i + 1)) (i + 2)) := fun n => by rw [B_MRunner_spawns_63, if_pos rfl]
    have := this g
    rw [← hg] at this
    exact this
  rw [if_neg (by rw [h2]; decide), e1] at e
  have hc5 := hB2.2.2.2.2
  have i1 := hB2.1
  obtain ⟨o, x1, x2, x3, x4, -, -⟩ := op_20 (N := N) (s := s) (pl := pl) (h := 0) (n := 0) ((i1.1.at_cd (by omega)).trans c1) ((i1.1.at_cd (by omega)).trans c2) (by decide) (by omega) hc5.1 hc5.2.1 hc5.2.2.1 (fun _ => by omega) hc5.2.2.2.1 hc5.2.2.2.2.1 i1.1.1 hB2.2.2.1 (by omega) i1.1.2.1 (by decide) ((i1.1.at_cd (by omega)).trans c0)
  have c9 := hc5.2.2.2.2.2.2.2.2
  obtain ⟨y1, y2⟩ := c234 (N := N) (l1 := nI f) (l2 := 0) (l3 := 0) (l4 := 0) (l5 := 0) (l6 := 0) (l7 := 0) hB2.2.1.1.1.1 hB2.2.2.2.1.1 hB2.2.2.2.1.2.1 c9.1 c9.2.1 hK8
  rw [e]
  have p0 : (PRE N s pl wo (Q 4 0 * Q 5 0) E lc V V a a A la z A la z B (atB (atB B (i + 1)) (i + 2)) st st) := (PRE.at hI.2.2.2.2).tr (PRE.at hB1.2.2.2.2)
  have t := s_cmf (X := B_MRunner_spawns_234 N 611 (nI f) 0 0 0 0 0 0 (atB (atB B (i + 1)) (i + 2))) (j3 := i + 3) hF (show a + 1 ≤ a + 3 + 0 by omega) hB2 x1 (fun q => by
    obtain ⟨B3, w1, w2, w3, w4, w5, w6, w7, -⟩ := y1 q
    exact ⟨B3, w1, w2, w3, w4, crow.mk hF.1 hF.2.2.2.2.2.2.2.2 (.inl ⟨x2, w5, f, 0, hf, by decide, x3, w6, x4, w7, fun i hi => by omega⟩)⟩) y2
  exact t.imp (fun t => t.pre p0) (fun t => t.pre p0)
theorem s_spw {dp i m a b f n : Nat} {of : Nat → Nat} (hF : (FIX N p wo w u K0 M E)) (h0 : ty i = 222) (hm : mn (i + 1) = nI f) (hf : f < E 15 0) (h2 : ty (i + 2) = 40) (h : SP3 N s pl p wo inp cs w u ir M ty mn nu cd E K0 nL lc hd (dp + 1) (i + 3) m a b n of) (hty : ty m = 41) (c0 : cd b = 20) (c1 : cd (b + 1) = nI f) (c2 : cd (b + 2) = nI n) (c3 : ∀ k, k < n → cd (b + 3 + k) = nI (of k)) (h9 : of 9 = f) : (SP0 N s pl p wo inp cs w u ir M ty mn nu cd E K0 nL lc hd dp i (m + 2) a (b + 3 + n) nL hd) := by
  obtain ⟨p1, p2, p3, p4, p5, go⟩ := h
  refine ⟨by omega, by omega, by omega, fun d Q V A la z B mk st dr hI k1 k2 k3 k4 k5 => ?_⟩
  have hB1 := hI.to (j := i + 1) hF
  have hB2 := hB1.to (j := i + 2) hF
  have hK8 := hF.2.2.2.2.2.2.2.1
  have hN := hF.2.2.1
  have e := sp_head (N := N) (o := X_RunS N d) hI.2.1.1.1 hI.2.2.2.1 h0 hm (by omega)
  rw [if_pos h2] at e
  have p0 : (PRE N s pl wo (Q 4 0 * Q 5 0) E lc V V a a A la z A la z B (atB (atB B (i + 1)) (i + 2)) st st) := (PRE.at hI.2.2.2.2).tr (PRE.at hB1.2.2.2.2)
  rcases go Q V A la z _ mk st dr (nI f) (i + 2) rfl hB2 (by omega) (by omega) with ⟨A2, B2, dr2, vs, q1, q2, q3, q4, q5⟩ | q5
  · obtain ⟨g, hg⟩ : ∃ g, N = g + 1 + n := ⟨N - 1 - n, by omega⟩
    have e1 := q5 (g + 1)
    rw [← hg] at e1
    have q6 := q2.to (j := m + 1) hF
    rw [e1, sp_183 q2.2.1.1.1 q2.2.2.2.1.1 (by omega), if_neg (by rw [hty]; decide), B_MRunner_spawns_63, if_pos rfl, show n - 1 + 1 = n by omega] at e
    have hc5 := q6.2.2.2.2
    have i1 := q6.1
    obtain ⟨o, x1, x2, x3, x4, x5, x6⟩ := op_20 (N := N) (s := s) (pl := pl) (h := 0) (n := n) ((i1.1.at_cd (by omega)).trans c1) ((i1.1.at_cd (by omega)).trans c2) p2 (by omega) hc5.1 hc5.2.1 hc5.2.2.1 (fun _ => by omega) hc5.2.2.2.1 hc5.2.2.2.2.1 i1.1.1 (by rw [Nat.zero_add]; exact q6.2.2.1) (by omega) i1.1.2.1 (by omega) ((i1.1.at_cd (by omega)).trans c0)
    have c9 := hc5.2.2.2.2.2.2.2.2
    obtain ⟨y1, y2⟩ := c234 (N := N) (l1 := nI f) (l2 := nI n) (l3 := vs 0) (l4 := vs 1) (l5 := vs 2) (l6 := vs 3) (l7 := nI (Wm of n)) q6.2.1.1.1.1 q6.2.2.2.1.1 q6.2.2.2.1.2.1 c9.1 c9.2.1 hK8
    rw [e]
    have pa : (PRE N s pl wo (Q 4 0 * Q 5 0) E lc V V a b A la z A2 la z B (atB B2 (m + 1)) st st) := (p0.tr q1).tr (PRE.at q2.2.2.2.2)
    have t := s_cmf (X := B_MRunner_spawns_234 N 611 (nI f) (nI n) (vs 0) (vs 1) (vs 2) (vs 3) (nI (Wm of n)) (atB B2 (m + 1))) (j3 := m + 2) hF (show b + 1 ≤ b + 3 + n by omega) q6 x1 (fun q => by
      obtain ⟨B3, w1, w2, w3, w4, w5, w6, w7, w8, w9, w10, w11, w12⟩ := y1 q
      refine ⟨B3, w1, w2, w3, w4, crow.mk hF.1 hF.2.2.2.2.2.2.2.2 (.inl ⟨x2, w5, f, n, hf, p2, x3, w6, x4, w7, fun k hk => ?_⟩)⟩
      obtain ⟨c, m1, m2⟩ := p5 k hk
      have hvk : B3.D 612 (12 * (K0 + mk) + (4 + k)) = vs k := by
        have hc : k = 0 ∨ k = 1 ∨ k = 2 ∨ k = 3 := by omega
        rcases hc with rfl | rfl | rfl | rfl
        · exact w9
        · exact w10
        · exact w11
        · exact w12
      refine ⟨of k, c, m1, by rw [← h9]; exact m2, ?_, ?_, ?_, fun y => ?_⟩
      · rw [x5 k hk, i1.1.at_cd (by omega)]
        exact c3 k hk
      · dsimp only
        rw [w8]
        exact Wm_ex p2 hk (fun x hx => by obtain ⟨c', y, -⟩ := p5 x hx; exact (mOf_lt hF.1 y).2.1)
      · rw [x6 k hk, Nat.zero_add, q3 k hk]
        have hc : k = 0 ∨ k = 1 ∨ k = 2 ∨ k = 3 := by omega
        rcases hc with rfl | rfl | rfl | rfl
        · exact w9.symm
        · exact w10.symm
        · exact w11.symm
        · exact w12.symm
      · dsimp only
        rw [hvk]
        exact q4.2 k hk y) y2
    exact t.imp (fun t => t.pre pa) (fun t => t.pre pa)
  · obtain ⟨g, hg⟩ : ∃ g, N = g + n + 1 := ⟨N - 1 - n, by omega⟩
    have t := q5 g
    rw [← hg] at t
    refine .inr (SFL.pre p0 (t.then (by omega) (fun B3 y1 y2 y3 => ⟨B3, e.trans y1, same.rf, y3⟩)))
end Par
