/-! ===== drop, show, give, take, put ===== -/
section Par
variable {N p wo inp cs w u ir M K0 : Nat} {s pl : Int32} {ty mn nu cd : Nat → Int32} {E Q : Nat → Nat → Nat} {V : Nat → Nat → Int32} {nL lc : Nat} {lk : Nat → Nat} {hd : Nat → Int32}
theorem cm_head {B B2 : Hp} {o : Orc_RunS} {i x : Nat} {t v dr : Int32} (h : RB B w u ir M ty mn nu) (hs : BS B i 0 dr) (hi : i + 2 < M) (ht : ty i = t) (ht2 : t = 223 ∨ t = 224 ∨ t = 225 ∨ t = 226 ∨ t = 229) (e : (X_RunE N 50).1 611 (atB (atB B (i + 1)) (i + 2)) = some (v, B2)) (h11 : B2.D 611 11 = nI x) :
    ((t = 223 ∨ t = 229) → dsp N o B = B_MRunner_commands_149 N 611 t v 0 0 0 (atB B2 (x + 1))) ∧ ((t = 224 ∨ t = 225) → dsp N o B = B_MRunner_commands_126 N 611 t v 0 0 (atB B2 (x + 1))) ∧
    (t = 226 → dsp N o B = (rf ((atB B2 (x + 1)).P 611 0) fun a100 => ck ((atB B2 (x + 1)).sh[a100]? = some (14, 0)) <| rf ((atB B2 (x + 1)).P a100 8) fun a103 => bnd (((atB B2 (x + 1)).D 611 11)) fun x105 => ar (atB B2 (x + 1)) 100 a103 fun n106 => ck (inb x105 n106) <| bnd (((atB B2 (x + 1)).D a103 (x105).toNatClampNeg)) fun x109 => rf ((atB B2 (x + 1)).P 611 0) fun a110 => ck ((atB B2 (x + 1)).sh[a110]? = some (14, 0)) <| rf ((atB B2 (x + 1)).P a110 8) fun a113 => bnd (((atB B2 (x + 1)).D 611 11)) fun x115 => ar (atB B2 (x + 1)) 100 a113 fun n116 => ck (inb (x115 + (2 : Int32)) n116) <| bnd (((atB B2 (x + 1)).D a113 ((x115 + (2 : Int32))).toNatClampNeg)) fun x119 => bnd (((atB B2 (x + 1)).D 611 11)) fun x120 => bnd ((atB B2 (x + 1)).sD 611 11 (x120 + (4 : Int32))) fun H121 => bnd ((H121.D 611 10)) fun x122 => if x122 ≤ (0 : Int32) then rf (H121.P 611 0) fun a124 => ck (H121.sh[a124]? = some (14, 0)) <| rf (H121.P a124 19) fun a127 => ar H121 100 a127 fun n129 => ck (inb x119 n129) <| bnd ((H121.D a127 (x119).toNatClampNeg)) fun x132 => bC ((X_RunE N 50).1 611 H121) fun v134 H135 => bC (F_MRunner_given N x132 v134 H135) fun v137 H138 => B_MRunner_commands_107 N 611 226 v x109 x119 v137 H138 else B_MRunner_commands_107 N 611 226 v x109 x119 0 H121)) := by
  have h1 := h.ex (atB_s (i := i + 1))
  have hs1 := atB_S (j := i + 1) hs
  have d0 : dsp N o B = F_MRunner_commands N 611 t (atB B (i + 1)) := by
    rw [dsp_h h (by omega) hs.1, ht, dsq_c ht2]
  unfold F_MRunner_commands at d0
  rw [ck_t (rS_611 h1.1), bnd_t, hs1.1, nI_1, bnd_t, show (atB B (i + 1)).sD 611 11 (nI (i + 1 + 1)) = atB (atB B (i + 1)) (i + 2) from rfl, bC_t e, bnd_t, h11, nI_1, bnd_t, show B2.sD 611 11 (nI (x + 1)) = atB B2 (x + 1) from rfl] at d0
  refine ⟨fun y => ?_, fun y => ?_, fun y => ?_⟩
  · rw [d0]
    rcases y with rfl | rfl
    · rw [if_neg (by decide), if_neg (by decide), if_neg (by decide)]
    · rw [if_neg (by decide), if_neg (by decide), if_neg (by decide)]
  · rw [d0]
    rcases y with rfl | rfl
    · rw [if_neg (by decide), if_pos rfl]
    · rw [if_neg (by decide), if_neg (by decide), if_pos rfl]
  · subst y
    rw [d0, if_pos rfl]
/-- drop, show -/
theorem s_one {dp i m a b k wd op : Nat} (hF : (FIX N p wo w u K0 M E)) (hlk : ∀ n, n < nL → lk n = 4 → hd (100 + n) = 1004) (hk4 : wd = 223 → k = 4) (hw : (wd, op) ∈ [(223, 21), (229, 26)]) (h0 : ty i = nI wd) (hD : DE ty mn nu cd E nL lc lk hd 0 (dp + 1) (i + 2) m a b k) (hc : cd b = nI op) (him : i + 2 < m) (hab : a < b) : (SP0 N s pl p wo inp cs w u ir M ty mn nu cd E K0 nL lc hd dp i (m + 2) a (b + 1) nL hd) := by
  refine ⟨by omega, by omega, by omega, fun d Q V A la z B mk st dr hI k1 k2 k3 k4 k5 => ?_⟩
  have hB1 := hI.to (j := i + 1) hF
  have hB2 := hB1.to (j := i + 2) hF
  have hK8 := hF.2.2.2.2.2.2.2.1
  have hwd : nI wd = 223 ∨ nI wd = 229 := by
    simp only [List.mem_cons, List.not_mem_nil, Prod.mk.injEq, or_false] at hw
    rcases hw with ⟨rfl, -⟩ | ⟨rfl, -⟩
    · exact .inl rfl
    · exact .inr rfl
  rcases s_val (N := N) (s := s) (pl := pl) hF hD hB2 (by omega) (by omega) (by omega) with ⟨n, A2, B2, v, dr2, g1, g2, g3, g4, g5, g6, g7⟩ | ⟨n, A2, B2, v, y, j', g1, g2, g3, g4, g5, g6, g7, g8, g9, g10⟩
  · have e := (cm_head (o := X_RunS N d) hI.2.1.1.1 hI.2.2.2.1 (by omega) h0 (by rcases hwd with y | y <;> rw [y] <;> decide) g5 g7.2.2.2.1.1).1 hwd
    have g8 := g7.to (j := m + 1) hF
    have hc5 := g8.2.2.2.2
    have i1 := g8.1
    have cl : ∃ o, CMO N s pl A2 la z (K0 + mk) mk (b + 1) 0 o ∧ o 0 = nI op ∧ o 1 = v := by
      simp only [List.mem_cons, List.not_mem_nil, Prod.mk.injEq, or_false] at hw
      rcases hw with ⟨-, rfl⟩ | ⟨-, rfl⟩
      · obtain ⟨o, x1, x2, x3⟩ := op_21 (N := N) (s := s) (pl := pl) (h := 0) hc5.1 hc5.2.1 hc5.2.2.1 (fun _ => by omega) hc5.2.2.2.1 hc5.2.2.2.2.1 i1.1.1 g8.2.2.1 (by omega) i1.1.2.1 (by decide) ((i1.1.at_cd (by omega)).trans hc)
        exact ⟨o, x1, x2, x3.trans g4⟩
      · obtain ⟨o, x1, x2, x3⟩ := op_26 (N := N) (s := s) (pl := pl) (h := 0) hc5.1 hc5.2.1 hc5.2.2.1 (fun _ => by omega) hc5.2.2.2.1 hc5.2.2.2.2.1 i1.1.1 g8.2.2.1 (by omega) i1.1.2.1 (by decide) ((i1.1.at_cd (by omega)).trans hc)
        exact ⟨o, x1, x2, x3.trans g4⟩
    obtain ⟨o, x1, x2, x3⟩ := cl
    have c9 := hc5.2.2.2.2.2.2.2.2
    obtain ⟨y1, y2⟩ := c149 (N := N) (t := nI wd) (l2 := v) (l3 := 0) (l4 := 0) (l5 := 0) g8.2.1.1.1.1 g8.2.2.2.1.1 g8.2.2.2.1.2.1 c9.1 c9.2.1 hK8
    rw [e]
    have p0 : (PRE N s pl wo (Q 4 0 * Q 5 0) E lc V V a b A la z A2 la z B (atB B2 (m + 1)) st st) := ((PRE.at hI.2.2.2.2).tr (PRE.at hB1.2.2.2.2)).tr ((PRE.ex hB2.2.2.2.2 g1 g2 g3 g6).tr (PRE.at g7.2.2.2.2))
    have t := s_cmf (X := B_MRunner_commands_149 N 611 (nI wd) v 0 0 0 (atB B2 (m + 1))) (j3 := m + 2) hF (Nat.le_refl _) g8 x1 (fun q => by
      obtain ⟨B3, w1, w2, w3, w4, w5, w6, -⟩ := y1 q
      refine ⟨B3, w1, w2, w3, w4, ?_⟩
      simp only [List.mem_cons, List.not_mem_nil, Prod.mk.injEq, or_false] at hw
      rcases hw with ⟨rfl, rfl⟩ | ⟨rfl, rfl⟩
      · exact crow.mk hF.1 hF.2.2.2.2.2.2.2.2 (.inr (.inl ⟨x2, w5, x3.trans w6.symm, by
          dsimp only
          rw [w6]
          exact v4_ok hF.1 hF.2.1 hB2.1.2.2.2 hlk hD (hk4 rfl) hB2.2.1.1 hB2.2.2.2.1 (by omega) g5 g7.2.2.2.1.2.1⟩))
      · exact crow.mk hF.1 hF.2.2.2.2.2.2.2.2 (.inr (.inr (.inr (.inr (.inr ⟨x2, w5, x3.trans w6.symm⟩)))))) y2
    exact t.imp (fun t => t.pre p0) (fun t => t.pre p0)
  · have e := (cm_head (o := X_RunS N d) hI.2.1.1.1 hI.2.2.2.1 (by omega) h0 (by rcases hwd with y | y <;> rw [y] <;> decide) g5 g8).1 hwd
    rw [c149f (v := nI (j' + 1)) (show Gr (atB B2 (j' + 1)) from g10.1) rds (by rw [show (atB B2 (j' + 1)).D 611 10 = B2.D 611 10 from rdf (by decide), g7]; exact g4)] at e
    refine .inr (SFL.pre ((PRE.at hI.2.2.2.2).tr (PRE.at hB1.2.2.2.2)) (SFL.ex hB2.2.2.2.2 (by omega) g2 g3 g4 g6 e (same.sD (atB_s.mono FRB.eb) (.inl ⟨rfl, by omega⟩)) (fun x => by rw [rdw (by decide)]; exact rdw (by decide)) (by rw [rdf (by decide), show (atB B2 (j' + 1)).D 611 10 = B2.D 611 10 from rdf (by decide)]; exact g7)))
/-- give, take -/
theorem s_gvt {dp i m a b c wd op : Nat} (hF : (FIX N p wo w u K0 M E)) (hw : (wd, op) ∈ [(224, 22), (225, 23)]) (h0 : ty i = nI wd) (hD : DE ty mn nu cd E nL lc lk hd 0 (dp + 1) (i + 2) m a b 4) (hm : mn (m + 1) = nI c) (hc4 : c < E 4 0) (hc : cd b = nI op) (hc1 : cd (b + 1) = nI c) (him : i + 2 < m) (hab : a < b) : (SP0 N s pl p wo inp cs w u ir M ty mn nu cd E K0 nL lc hd dp i (m + 3) a (b + 2) nL hd) := by
  refine ⟨by omega, by omega, by omega, fun d Q V A la z B mk st dr hI k1 k2 k3 k4 k5 => ?_⟩
  have hB1 := hI.to (j := i + 1) hF
  have hB2 := hB1.to (j := i + 2) hF
  have hK8 := hF.2.2.2.2.2.2.2.1
  have hM := hI.2.1.1.1.2.2.2.2.2.2.2.1
  have hwd : nI wd = 224 ∨ nI wd = 225 := by
    simp only [List.mem_cons, List.not_mem_nil, Prod.mk.injEq, or_false] at hw
    rcases hw with ⟨rfl, -⟩ | ⟨rfl, -⟩
    · exact .inl rfl
    · exact .inr rfl
  have e126 : ∀ (H : Hp) (x : Nat) (v : Int32), RB H w u ir M ty mn nu → H.D 611 11 = nI x → x < M → B_MRunner_commands_126 N 611 (nI wd) v 0 0 H = B_MRunner_commands_149 N 611 (nI wd) v (mn x) 0 0 (atB H (x + 1)) := fun H x v hr h11 hx => by
    obtain ⟨t0, t1, t2, t3, t4, t5, t6⟩ := hr.T
    unfold B_MRunner_commands_126
    rw [ck_t (rS_611 hr.1), rf_t hr.2.2.2.1, ck_t t0, rf_t t5, bnd_t, h11, ar_t t6, rdI (show x < 6002 by omega) (by decide), (hr.2.2.2.2.2.2.2.2 x hx).2.1, bnd_t, nI_1, bnd_t]
    rfl
  rcases s_val (N := N) (s := s) (pl := pl) hF hD hB2 (by omega) (by omega) (by omega) with ⟨n, A2, B2, v, dr2, g1, g2, g3, g4, g5, g6, g7⟩ | ⟨n, A2, B2, v, y, j', g1, g2, g3, g4, g5, g6, g7, g8, g9, g10⟩
  · have e := (cm_head (o := X_RunS N d) hI.2.1.1.1 hI.2.2.2.1 (by omega) h0 (by rcases hwd with y | y <;> rw [y] <;> decide) g5 g7.2.2.2.1.1).2.1 hwd
    have g8 := g7.to (j := m + 1) hF
    have g9 := g8.to (j := m + 2) hF
    have hc5 := g9.2.2.2.2
    have i1 := g9.1
    have cl : ∃ o, CMO N s pl A2 la z (K0 + mk) mk (b + 2) 0 o ∧ o 0 = nI op ∧ o 1 = v ∧ o 2 = nI c := by
      simp only [List.mem_cons, List.not_mem_nil, Prod.mk.injEq, or_false] at hw
      rcases hw with ⟨-, rfl⟩ | ⟨-, rfl⟩
      · obtain ⟨o, x1, x2, x3, x4⟩ := op_22 (N := N) (s := s) (pl := pl) (h := 0) ((i1.1.at_cd (by omega)).trans hc1) hc5.1 hc5.2.1 hc5.2.2.1 (fun _ => by omega) hc5.2.2.2.1 hc5.2.2.2.2.1 i1.1.1 g9.2.2.1 (by omega) i1.1.2.1 (by decide) ((i1.1.at_cd (by omega)).trans hc)
        exact ⟨o, x1, x2, x3.trans g4, x4⟩
      · obtain ⟨o, x1, x2, x3, x4⟩ := op_23 (N := N) (s := s) (pl := pl) (h := 0) ((i1.1.at_cd (by omega)).trans hc1) hc5.1 hc5.2.1 hc5.2.2.1 (fun _ => by omega) hc5.2.2.2.1 hc5.2.2.2.2.1 i1.1.1 g9.2.2.1 (by omega) i1.1.2.1 (by decide) ((i1.1.at_cd (by omega)).trans hc)
        exact ⟨o, x1, x2, x3.trans g4, x4⟩
    obtain ⟨o, x1, x2, x3, x4⟩ := cl
    have c9 := hc5.2.2.2.2.2.2.2.2
    rw [e126 _ (m + 1) v g8.2.1.1.1 g8.2.2.2.1.1 (by omega), hm] at e
    obtain ⟨y1, y2⟩ := c149 (N := N) (t := nI wd) (l2 := v) (l3 := nI c) (l4 := 0) (l5 := 0) g9.2.1.1.1.1 g9.2.2.2.1.1 g9.2.2.2.1.2.1 c9.1 c9.2.1 hK8
    rw [e]
    have p0 : (PRE N s pl wo (Q 4 0 * Q 5 0) E lc V V a b A la z A2 la z B (atB (atB B2 (m + 1)) (m + 2)) st st) := (((PRE.at hI.2.2.2.2).tr (PRE.at hB1.2.2.2.2)).tr ((PRE.ex hB2.2.2.2.2 g1 g2 g3 g6).tr (PRE.at g7.2.2.2.2))).tr (PRE.at g8.2.2.2.2)
    have t := s_cmf (X := B_MRunner_commands_149 N 611 (nI wd) v (nI c) 0 0 (atB (atB B2 (m + 1)) (m + 2))) (j3 := m + 3) hF (show b + 1 ≤ b + 2 by omega) g9 x1 (fun q => by
      obtain ⟨B3, w1, w2, w3, w4, w5, w6, w7, -⟩ := y1 q
      refine ⟨B3, w1, w2, w3, w4, crow.mk hF.1 hF.2.2.2.2.2.2.2.2 (.inr (.inr (.inl ⟨c, hc4, ?_, x3.trans w6.symm, x4, w7⟩)))⟩
      simp only [List.mem_cons, List.not_mem_nil, Prod.mk.injEq, or_false] at hw
      rcases hw with ⟨rfl, rfl⟩ | ⟨rfl, rfl⟩
      · exact .inl ⟨x2, w5⟩
      · exact .inr ⟨x2, w5⟩) y2
    exact t.imp (fun t => t.pre p0) (fun t => t.pre p0)
  · have e := (cm_head (o := X_RunS N d) hI.2.1.1.1 hI.2.2.2.1 (by omega) h0 (by rcases hwd with y | y <;> rw [y] <;> decide) g5 g8).2.1 hwd
    have g11 := g10.ex (atB_s (i := j' + 1))
    have w10 : (atB (atB B2 (j' + 1)) (j' + 1 + 1)).D 611 10 = y := by
      show (((B2.sD 611 11 (nI (j' + 1))).sD 611 11 (nI (j' + 1 + 1))).D 611 10) = _
      rw [rdf (by decide), rdf (by decide)]
      exact g7
    rw [e126 _ (j' + 1) v g11 rds (by omega), c149f (v := nI (j' + 1 + 1)) (show Gr (atB (atB B2 (j' + 1)) (j' + 1 + 1)) from g10.1) rds (by rw [w10]; exact g4)] at e
    refine .inr (SFL.pre ((PRE.at hI.2.2.2.2).tr (PRE.at hB1.2.2.2.2)) (SFL.ex hB2.2.2.2.2 (by omega) g2 g3 g4 g6 e (same.sD ((atB_s.tr atB_s).mono FRB.eb) (.inl ⟨rfl, by omega⟩)) (fun x => ?_) (by rw [rdf (by decide)]; exact w10)))
    show ((((B2.sD 611 11 (nI (j' + 1))).sD 611 11 (nI (j' + 1 + 1))).sD 611 11 _).D 612 x) = _
    rw [rdw (by decide), rdw (by decide), rdw (by decide)]
end Par
