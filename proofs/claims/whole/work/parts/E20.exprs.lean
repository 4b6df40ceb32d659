/-! ===== every expression is answered alike: calls, names, the whole ===== -/
section Par
variable {N p wo inp cs w u ir M : Nat} {s pl : Int32} {ty mn nu cd : Nat → Int32} {E Q : Nat → Nat → Nat} {V : Nat → Nat → Int32} {nL lc : Nat} {lk : Nat → Nat} {hd : Nat → Int32}
theorem j_cal {dp i j a b wd kin op kout : Nat} (hN : 40 ≤ N) (h0 : calT wd kin op kout) (h1 : ty i = nI wd) (h3 : dp < 20) (ih : JP N s pl p wo inp cs w u ir M ty mn nu cd E Q V nL lc hd 0 (dp + 1) (i + 2) j a b) (h6 : cd b = nI op) : JP N s pl p wo inp cs w u ir M ty mn nu cd E Q V nL lc hd 5 dp i (j + 1) a (b + 1) := by
  have p1 := ih.1
  have hw : wd = 236 ∨ wd = 237 ∨ wd = 238 ∨ wd = 239 ∨ wd = 209 ∨ wd = 211 := by
    unfold calT at h0
    simp only [List.mem_cons, List.not_mem_nil, Prod.mk.injEq, or_false] at h0
    omega
  have nt : nI wd ≠ 45 ∧ nI wd ≠ 33 ∧ nI wd ≠ 2 ∧ nI wd ≠ 3 ∧ nI wd ≠ 231 ∧ nI wd ≠ 232 ∧ nI wd ≠ 233 ∧ nI wd ≠ 234 ∧ nI wd ≠ 235 := by
    rcases hw with rfl | rfl | rfl | rfl | rfl | rfl <;> decide
  have n3 : ¬ nI wd = 1 ∧ ¬ nI wd = 40 ∧ ¬ nI wd = 240 := by
    rcases hw with rfl | rfl | rfl | rfl | rfl | rfl <;> decide
  refine j_un (by omega) (by omega) ih h3 (by omega) ?_ ?_
  · intro d A2 B1 B2 h v dr hA hB2 hB1 hc hv h14 s1 s2 k1 k2 k3 e
    have hcd := (hA.at_cd (show b < cs by omega)).trans h6
    have hp := hA.2.1
    have hb : b < cs := by omega
    have base : RL N (d + 1 + 1) 5 B1 = F_MRunner_called N 611 (nI wd) v (atB B2 (j + 1)) := by
      rw [hB1.pm (t := nI wd) s1 (by omega) h1 nt, p_cal n3.1 n3.2.1 n3.2.2 (by omega) h1 (atB_S s1).1 e hB2.1 s2.1, s2.2.1, if_neg (by decide), s2.2.2.1, if_pos (by decide)]
    have hB3 := hB2.ex (atB_s (i := j + 1))
    have s3 := atB_S (j := j + 1) s2
    have easy : ∀ x, (∃ A3, VR N s pl 1 A2 A3 ∧ VO A2 A3 h (b + 1) x) → F_MRunner_called N 611 (nI wd) v (atB B2 (j + 1)) = some (x, atB B2 (j + 1)) → ∃ A3 B3 v3 dr3, VR N s pl 1 A2 A3 ∧ same (EXA h) A2 A3 ∧ CS A3 (b + 1) (h + 1) ∧ A3.D 119 h = v3 ∧ A3.D 117 14 = dr3 ∧ RL N (d + 1 + 1) 5 B1 = some (v3, B3) ∧ same EXB B2 B3 ∧ BS B3 (j + 1) 0 dr3 := fun x ⟨A3, q1, q2, q3, q4, q5⟩ e => ⟨A3, _, x, dr, q1, q2, q3, q4, q5.trans h14, base.trans e, atB_s, s3⟩
    unfold calT at h0
    simp only [List.mem_cons, List.not_mem_nil, Prod.mk.injEq, or_false] at h0
    rcases h0 with ⟨rfl, rfl, rfl, rfl⟩ | ⟨rfl, rfl, rfl, rfl⟩ | ⟨rfl, rfl, rfl, rfl⟩ | ⟨rfl, rfl, rfl, rfl⟩ | ⟨rfl, rfl, rfl, rfl⟩ | ⟨rfl, rfl, rfl, rfl⟩
    · have o := op_39 (N := N) (s := s) (pl := pl) hA.1 hc hb hp k1 hcd
      rw [hv, ipt_eq (v := v) hA.2.2.2.2.1] at o
      exact .inl (easy _ o (by rw [show nI 236 = (236 : Int32) from rfl, c_236 hB3.1, ipt_eq (v := v) hB3.2.2.2.2.1]))
    · by_cases q : (1 : Int32) ≤ v
      · obtain ⟨A3, q1, q2, q3, q4, q5⟩ := op_40 (N := N) (s := s) (pl := pl) hA.2.2.2.1.1 hA.2.2.2.1.2.1 (by rw [hv]; exact q) hA.1 hc hb hp k1 hcd
        rw [hA.2.2.2.1.2.2.2.2.2, hA.2.2.2.1.2.2.2.2.1, hA.2.2.2.1.2.2.1, hA.2.2.2.1.2.2.2.1, h14, hv] at q4
        rw [h14] at q5
        have e2 := base.trans (c_237 hB3.1 (by omega) s3.2.2.2 q)
        rw [hB3.2.2.2.1.2.2.2, hB3.2.2.2.1.2.2.1, hB3.2.2.2.1.1, hB3.2.2.2.1.2.1] at e2
        generalize drw (V 1 0) (V 0 0) (V 9 0) (V 2 0) dr v = x at q4 e2
        exact .inl ⟨A3, _, x, dr + 1, q1, q2, q3, q4, q5, e2, same.sD atB_s ⟨rfl, by omega⟩, by rw [rdf (by decide)]; exact s3.1, by rw [rdf (by decide)]; exact s3.2.1, by rw [rdf (by decide)]; exact s3.2.2.1, rds⟩
      · obtain ⟨A3, q1, q2⟩ := op_40f (N := N) (s := s) (pl := pl) (by rw [hv]; exact q) hA.1 hc hb hp k1 hcd
        exact .inr ⟨A3, _, 0, 7, q1, q2, by decide, base.trans (c_237f hB3.1 s3.2.1 q), same.sD atB_s ⟨rfl, by omega⟩, rds, by rw [rdf (by decide)]; exact s3.1⟩
    · have o := op_41 (N := N) (s := s) (pl := pl) hA.2.2.1 hA.1 hc hb hp k1 hcd
      rw [hv] at o
      exact .inl (easy _ o (c_238 hB3.1 hB3.2.1))
    · by_cases q : (0 : Int32) ≤ v
      · obtain ⟨x, r, o⟩ := op_75 (N := N) (s := s) (pl := pl) (p0 := 611) (B := atB B2 (j + 1)) (by rw [hv]; exact q) hN hA.1 hc hb hp k1 hcd
        rw [hv] at r
        exact .inl (easy _ o ((c_239 hB3.1).trans r))
      · obtain ⟨A3, q1, q2⟩ := op_75f (N := N) (s := s) (pl := pl) (by rw [hv]; exact q) hN hA.1 hc hb hp k1 hcd
        exact .inr ⟨A3, _, 0, 2, q1, q2, by decide, (base.trans (c_239 hB3.1)).trans (c_239f hB3.1 s3.2.1 q), same.sD atB_s ⟨rfl, by omega⟩, rds, by rw [rdf (by decide)]; exact s3.1⟩
    · have o := op_76 (N := N) (s := s) (pl := pl) hA.1 hc hb hp k1 hcd
      rw [hv, sh76] at o
      exact .inl (easy _ o c_209)
    · have o := op_77 (N := N) (s := s) (pl := pl) hA.1 hc hb hp k1 hcd
      rw [hv, Int64.mul_comm] at o
      exact .inl (easy _ o c_211)
  · intro d B1 B2 v j' y hB1 hB2 s1 g1 g2 g3 g4 k2 e
    exact ⟨0, j' + 1, by rw [hB1.pm (t := nI wd) s1 (by omega) h1 nt, p_cal n3.1 n3.2.1 n3.2.2 (by omega) h1 (atB_S s1).1 e hB2.1 g3, g1, if_pos g2], by omega⟩
theorem j_has {dp i j a b c : Nat} (h0 : ty i = 240) (h2 : dp < 20) (ih : JP N s pl p wo inp cs w u ir M ty mn nu cd E Q V nL lc hd 0 (dp + 1) (i + 2) j a b) (h5 : mn (j + 1) = nI c) (h6 : c < 16) (h9 : cd b = 42) (h10 : cd (b + 1) = nI c) : JP N s pl p wo inp cs w u ir M ty mn nu cd E Q V nL lc hd 5 dp i (j + 3) a (b + 2) := by
  have p1 := ih.1
  refine j_un (by omega) (by omega) ih h2 (by omega) ?_ ?_
  · intro d A2 B1 B2 h v dr hA hB2 hB1 hc hv h14 s1 s2 k1 k2 k3 e
    have hB3 := hB2.ex (atB_s (i := j + 3))
    have s3 := atB_S (j := j + 3) s2
    obtain ⟨A3, q1, q2, q3, q4, q5⟩ := op_42 (N := N) (s := s) (pl := pl) (c := c) hA.2.2.1 ((hA.at_cd (by omega)).trans h10) h6 hA.1 hc (by omega) hA.2.1 k1 ((hA.at_cd (by omega)).trans h9)
    rw [hv] at q4
    refine .inl ⟨A3, _, _, dr, q1, q2, q3, q4, q5.trans h14, ?_, atB_s, s3⟩
    rw [hB1.pm (t := 240) s1 (by omega) h0 (by decide), p_has (atB_S s1).1 e hB2.1 s2.1 (by omega), h5, bC_t (ev_mhas hB3.1.2.2.1 hB3.2.1 h6)]
    split
    · rfl
    · rfl
  · intro d B1 B2 v j' y hB1 hB2 s1 g1 g2 g3 g4 k2 e
    have hB3 := hB2.ex (atB_s (i := j' + 3))
    obtain ⟨r, er⟩ := mhas_ex (N := N) (v := v) (x := mn (j' + 1)) hB3.1.2.2.1 hB3.2.1
    have go : RL N (d + 1 + 1) 5 B1 = (if r = (0 : Int32) then some (0, atB B2 (j' + 3)) else some (1, atB B2 (j' + 3))) := by
      rw [hB1.pm (t := 240) s1 (by omega) h0 (by decide), p_has (atB_S s1).1 e hB2.1 g3 (by omega), bC_t er]
    by_cases q : r = 0
    · rw [if_pos q] at go
      exact ⟨0, j' + 3, go, by omega⟩
    · rw [if_neg q] at go
      exact ⟨1, j' + 3, go, by omega⟩
theorem j_far {dp i a n c m : Nat} (h0 : ty i = 1) (h1 : ty (i + 1) = 46) (h2 : nu i = 1) (h3 : mn i = nI n) (h4 : n < nL) (h6 : mn (i + 2) = nI c) (h7 : mn (i + 4) = nI m) (h9 : mOf E c m) (hc16 : c < 16) (hm48 : m < 48) (h10 : E 21 (E 17 0 - 1) / 2 ^ c % 2 = 1) (h11 : cd a = 33) (h12 : cd (a + 1) = nI n) (h13 : cd (a + 2) = 38) (h14 : cd (a + 3) = nI c) (h15 : cd (a + 4) = nI m) : JP N s pl p wo inp cs w u ir M ty mn nu cd E Q V nL lc hd 5 dp i (i + 5) a (a + 5) := by
  refine ⟨by omega, by omega, fun d A B h dr hA hB hc hdr hs k1 k2 k3 k4 => ?_⟩
  obtain ⟨d, rfl⟩ : ∃ e, d = e + 1 := ⟨d - 1, by omega⟩
  have hB1 := hB.ex (atB_s (i := i + 1))
  have hn := hB.2.2.1
  obtain ⟨A2, q1, q2, q3, q4, q5⟩ := op_33 (N := N) (s := s) (pl := pl) (n := n) (by omega) ((hA.at_cd (by omega)).trans h12) hA.1 hc (by omega) hA.2.1 (by omega) ((hA.at_cd (by omega)).trans h11)
  have hA2 := hA.ex q2
  rw [hA.2.2.2.2.2.2.2.2.1 n h4] at q4
  obtain ⟨f1, f2⟩ := r_far (N := N) hB1.1 (atB_S hs) hB1.2.1 (by omega) h1 h2 h3 (by omega) h6 hc16 h7 hm48
  rw [hB1.2.2.2.2.2.2.2.1 n h4] at f1 f2
  have c2 := (hA2.at_cd (show a + 2 < cs by omega)).trans h13
  have c3 := (hA2.at_cd (show a + 3 < cs by omega)).trans h14
  have c4 := (hA2.at_cd (show a + 4 < cs by omega)).trans h15
  by_cases q : liv Q (V 6 n) ∧ Q 2 (lo8 (V 6 n)) / 2 ^ c % 2 = 1
  · obtain ⟨A3, r1, r2, r3, r4, r5⟩ := op_38 (N := N) (s := s) (pl := pl) (h := h) (c := c) (m := m) hA2.2.2.1 c3 hc16 c4 hA2.2.2.2.2.2.1.1 hA2.2.2.2.2.2.1.2 hm48 (by rw [q4]; exact q) hA2.1 q3 (by omega) hA2.2.1 (by omega) c2
    obtain ⟨B2, e, s2, s3⟩ := f1 q
    rw [q4, hA2.2.2.2.2.2.2.2.1 _ c m lo8_lt q.1.1 q.2 h9 h10] at r4
    rw [hB1.2.2.2.2.2.2.1 _ c m lo8_lt q.1.1 q.2 h9 h10] at e
    refine .inl (JO.lo (by decide) (n := 1 + 1) (by omega) (q1.tr r1) (q2.tr r2) r3 r4 ((r5.trans q5).trans hdr) ?_ (atB_s.tr s2) s3)
    rw [hB.pm (t := 1) hs (by omega) h0 (by decide)]
    exact e
  · obtain ⟨A3, r1, r2⟩ := op_38f (N := N) (s := s) (pl := pl) (h := h) (c := c) (m := m) hA2.2.2.1 c3 hc16 c4 (by rw [q4]; exact q) hA2.1 q3 (by omega) hA2.2.1 (by omega) c2
    obtain ⟨B2, e, s2, s3, s4⟩ := f2 q
    refine .inr (JF.mk (l := 5) (v := 0) rfl (n := 1 + 1) (by omega) (q1.tr r1) ⟨(q2.mono (EXA.up (by omega))).tr r2.1, r2.2⟩ (by decide) ?_ (atB_s.tr s2) s3 s4 (by omega))
    rw [hB.pm (t := 1) hs (by omega) h0 (by decide)]
    exact e
theorem jnt0 (hE : WE E) (hN : M + 2 ≤ N) (hN4 : 40 ≤ N) {tg dp i j a b k : Nat} (h : DE ty mn nu cd E nL lc lk hd tg dp i j a b k) : JP N s pl p wo inp cs w u ir M ty mn nu cd E Q V nL lc hd tg dp i j a b ∧ DE ty mn nu cd E nL lc lk hd tg dp i j a b k := by
  have hE' := hE
  obtain ⟨w1, w2, w3, w4, w5, w6, w7, w8, w9, _⟩ := hE
  have mlt : ∀ c m, mOf E c m → c < 16 ∧ m < 48 := fun c m y => by
    obtain ⟨y1, y2, y3⟩ := y
    have := w3 c y1
    omega
  refine h (fun tg dp i j a b k => JP N s pl p wo inp cs w u ir M ty mn nu cd E Q V nL lc hd tg dp i j a b ∧ DE ty mn nu cd E nL lc lk hd tg dp i j a b k) ⟨?_, ?_, ?_, ?_, ?_, ?_, ?_, ?_, ?_, ?_, ?_, ?_, ?_, ?_, ?_, ?_, ?_, ?_, ?_, ?_, ?_, ?_⟩
  · intro dp i a h0 h1 h2
    refine ⟨j_tok (by omega) fun d A B h dr hA hB hc h14 hs k1 k2 k3 => ⟨nu i, ?_, ?_⟩, DE.num h0 h1 h2⟩
    · have e := op_30 (N := N) (s := s) (pl := pl) hA.1 hc (by omega) hA.2.1 k1 ((hA.at_cd (by omega)).trans h1)
      rw [hA.at_cd (by omega), h2] at e
      exact e
    · rw [hB.un hs (by omega) (by rw [h0]; decide) (by rw [h0]; decide), if_pos (.inl h0)]
  · intro dp i a h0 h1 h2
    refine ⟨j_tok (by omega) fun d A B h dr hA hB hc h14 hs k1 k2 k3 => ⟨nu i, ?_, ?_⟩, DE.fix h0 h1 h2⟩
    · have e := op_30 (N := N) (s := s) (pl := pl) hA.1 hc (by omega) hA.2.1 k1 ((hA.at_cd (by omega)).trans h1)
      rw [hA.at_cd (by omega), h2] at e
      exact e
    · rw [hB.un hs (by omega) (by rw [h0]; decide) (by rw [h0]; decide), if_pos (.inr h0)]
  · intro dp i a h0 h1 h2
    refine ⟨j_tok (by omega) fun d A B h dr hA hB hc h14 hs k1 k2 k3 => ⟨1, ?_, ?_⟩, DE.tru h0 h1 h2⟩
    · have e := op_30 (N := N) (s := s) (pl := pl) hA.1 hc (by omega) hA.2.1 k1 ((hA.at_cd (by omega)).trans h1)
      rw [hA.at_cd (by omega), h2] at e
      exact e
    · rw [hB.un hs (by omega) (by rw [h0]; decide) (by rw [h0]; decide), if_neg (by rw [h0]; decide), if_pos h0]
  · intro dp i a h0 h1 h2
    refine ⟨j_tok (by omega) fun d A B h dr hA hB hc h14 hs k1 k2 k3 => ⟨0, ?_, ?_⟩, DE.fal h0 h1 h2⟩
    · have e := op_30 (N := N) (s := s) (pl := pl) hA.1 hc (by omega) hA.2.1 k1 ((hA.at_cd (by omega)).trans h1)
      rw [hA.at_cd (by omega), h2] at e
      exact e
    · rw [hB.un hs (by omega) (by rw [h0]; decide) (by rw [h0]; decide), if_neg (by rw [h0]; decide), if_neg (by rw [h0]; decide), if_pos h0]
  · intro dp i a h0 h1 h2
    refine ⟨j_tok (by omega) fun d A B h dr hA hB hc h14 hs k1 k2 k3 => ⟨-1, ?_, ?_⟩, DE.non h0 h1 h2⟩
    · have e := op_30 (N := N) (s := s) (pl := pl) hA.1 hc (by omega) hA.2.1 k1 ((hA.at_cd (by omega)).trans h1)
      rw [hA.at_cd (by omega), h2] at e
      exact e
    · rw [hB.un hs (by omega) (by rw [h0]; decide) (by rw [h0]; decide), if_neg (by rw [h0]; decide), if_neg (by rw [h0]; decide), if_neg (by rw [h0]; decide), if_pos h0]
  · intro dp i a h0 h1
    refine ⟨j_tok (by omega) fun d A B h dr hA hB hc h14 hs k1 k2 k3 => ⟨V 9 0, ?_, ?_⟩, DE.slf h0 h1⟩
    · have e := op_31 (N := N) (s := s) (pl := pl) hA.2.2.2.1.1 hA.2.2.2.1.2.1 hA.1 hc (by omega) hA.2.1 k1 ((hA.at_cd (by omega)).trans h1)
      rw [hA.2.2.2.1.2.2.1] at e
      exact e
    · rw [hB.un hs (by omega) (by rw [h0]; decide) (by rw [h0]; decide), if_neg (by rw [h0]; decide), if_neg (by rw [h0]; decide), if_neg (by rw [h0]; decide), if_neg (by rw [h0]; decide), if_pos h0, hB.2.2.2.1.1]
  · intro dp i a h0 h1
    refine ⟨j_tok (by omega) fun d A B h dr hA hB hc h14 hs k1 k2 k3 => ⟨V 0 0, ?_, ?_⟩, DE.tck h0 h1⟩
    · have e := op_32 (N := N) (s := s) (pl := pl) hA.1 hc (by omega) hA.2.1 k1 ((hA.at_cd (by omega)).trans h1)
      rw [hA.2.2.2.1.2.2.2.2.1] at e
      exact e
    · rw [hB.un hs (by omega) (by rw [h0]; decide) (by rw [h0]; decide), if_neg (by rw [h0]; decide), if_neg (by rw [h0]; decide), if_neg (by rw [h0]; decide), if_neg (by rw [h0]; decide), if_neg (by rw [h0]; decide), if_pos h0, hB.2.2.2.1.2.2.1]
  · -- par
    intro dp i j a b k h0 h1 ⟨⟨p1, p2, ih⟩, hDE⟩ h3
    refine ⟨⟨by omega, p2, fun d A B h dr hA hB hc h14 hs k1 k2 k3 k4 => ?_⟩, DE.par h0 h1 hDE h3⟩
    obtain ⟨d, rfl⟩ : ∃ e, d = e + 1 + 1 := ⟨d - 2, by omega⟩
    have r0 : rz 0 = 3 := rfl
    have r5 : rz 5 = 0 := rfl
    have hB1 := hB.ex (atB_s (i := i + 1))
    rcases ih d A (atB B (i + 1)) h dr hA hB1 hc h14 (atB_S hs) (by omega) (by omega) (by omega) (by omega) with g | g
    · obtain ⟨n, A2, B2, v, dr2, g1, g2, g3, g4, g5, g6, g7, g8, g9⟩ := g.out (by decide)
      have g7' : (X_RunE N (d + 1)).1 611 (atB B (i + 1)) = some (v, B2) := g7
      exact .inl (JO.lo (by decide) g1 g2 g3 g4 g5 g6 (by rw [hB.pm (t := 40) hs (by omega) h0 (by decide), p_par g7' g9.1]) ((atB_s.tr g8).tr atB_s) (atB_S g9))
    · obtain ⟨n, A2, B2, v, y, j', g1, g2, g3, g4, g5, g6, g7, g8, g9⟩ := g
      have g5' : (X_RunE N (d + 1)).1 611 (atB B (i + 1)) = some (v, B2) := g5
      exact .inr (JF.mk (l := 5) rfl g1 g2 g3 g4 (by rw [hB.pm (t := 40) hs (by omega) h0 (by decide), p_par g5' g8]) ((atB_s.tr g6).tr atB_s) (by rw [show (atB B2 (j' + 1)).D 611 10 = B2.D 611 10 from rdf (by decide)]; exact g7) (show (atB B2 (j' + 1)).D 611 11 = nI (j' + 1) from rds) (by omega))
  · intro dp i j a b wd kin op kout h0 h1 h2 h3 ⟨ih, hDE⟩ h5 h6
    exact ⟨j_cal hN4 h0 h1 h3 ih h6, DE.cal h0 h1 h2 h3 hDE h5 h6⟩
  · intro dp i j a b c h0 h1 h2 ⟨ih, hDE⟩ h4 h5 h6 h7 h8 h9 h10
    exact ⟨j_has h0 h2 ih h5 (by omega) h9 h10, DE.has h0 h1 h2 hDE h4 h5 h6 h7 h8 h9 h10⟩
  · -- loc
    intro dp i a n h0 h1 h2 h3 h4 h5
    refine ⟨j_tok (by omega) fun d A B h dr hA hB hc h14 hs k1 k2 k3 => ⟨V 6 n, ?_, ?_⟩, DE.loc h0 h1 h2 h3 h4 h5⟩
    · have hn := hB.2.2.1
      have e := op_33 (N := N) (s := s) (pl := pl) (n := n) (by omega) ((hA.at_cd (by omega)).trans h5) hA.1 hc (by omega) hA.2.1 k1 ((hA.at_cd (by omega)).trans h4)
      rw [hA.2.2.2.2.2.2.2.2.1 n h2] at e
      exact e
    · have hn := hB.2.2.1
      have e := r_nm (N := N) (hB.ex (atB_s (i := i + 1))).1 (atB_S hs).1 k2 h1 (by omega) h3
      rw [(hB.ex (atB_s (i := i + 1))).2.2.2.2.2.2.2.1 n h2] at e
      rw [hB.pm (t := 1) hs (by omega) h0 (by decide)]
      exact e
  · -- own
    intro dp i a c m h0 h1 h2 h3 h4 h5 h6 h7
    refine ⟨j_lit (by omega) (by omega) fun d A B h dr hA hB hc h14 hs k1 k2 k3 => ⟨V 5 m, ?_, ?_⟩, DE.own h0 h1 h2 h3 h4 h5 h6 h7⟩
    · have e := op_35 (N := N) (s := s) (pl := pl) hA.2.2.2.1.1 hA.2.2.2.1.2.1 hA.2.2.2.2.2.1.1 hA.2.2.2.2.2.1.2 (mlt c m h4).2 ((hA.at_cd (by omega)).trans h7) hA.1 hc (by omega) hA.2.1 k1 ((hA.at_cd (by omega)).trans h6)
      rw [hA.2.2.2.2.2.2.1 c m h4 h5] at e
      exact e
    · have hB1 := hB.ex (atB_s (i := i + 1))
      obtain ⟨B2, e, s2, hs2⟩ := r_own (N := N) hB1.1 (atB_S hs) (by omega) h1 h2 h3 (mlt c m h4).2
      rw [hB1.2.2.2.2.2.1 c m h4 h5] at e
      exact ⟨B2, by rw [hB.pm (t := 1) hs (by omega) h0 (by decide)]; exact e, atB_s.tr s2, hs2⟩
  · -- heard
    intro dp i a e q l h0 h1 h2 h3 h4 h5 h6 h7 h8 h9 h10
    have := (w8 e h5).1
    refine ⟨j_lit (by omega) (by omega) fun d A B h dr hA hB hc h14 hs k1 k2 k3 => ⟨V (400 + Q 3 l) q, ?_, ?_⟩, DE.hrd h0 h1 h2 h3 h4 h5 h6 h7 h8 h9 h10⟩
    · obtain ⟨m0, m1, m2, m3⟩ := hA.2.2.2.2.2.2.2.2.2.1 e l h7 h5
      have e := op_37 (N := N) (s := s) (pl := pl) m0 ((hA.at_cd (by omega)).trans h9) ((hA.at_cd (by omega)).trans h10) m1 m2 (by omega) hA.1 hc (by omega) hA.2.1 k1 ((hA.at_cd (by omega)).trans h8)
      rw [m3 q h6] at e
      exact e
    · have hB1 := hB.ex (atB_s (i := i + 1))
      obtain ⟨m1, m2, m3⟩ := hB1.2.2.2.2.2.2.2.2 e l h7 h5
      obtain ⟨B2, ee, s2, hs2⟩ := r_hrd (N := N) hB1.1 (atB_S hs) (by omega) h1 h2 h3 (by omega) h4 (by omega) m1 m2
      rw [m3 q h6] at ee
      exact ⟨B2, by rw [hB.pm (t := 1) hs (by omega) h0 (by decide)]; exact ee, atB_s.tr s2, hs2⟩
  · intro dp i a n c m h0 h1 h2 h3 h4 h5 h6 h7 h8 h9 h10 h11 h12 h13 h14 h15
    exact ⟨j_far h0 h1 h2 h3 h4 h6 h7 h9 (mlt c m h9).1 (mlt c m h9).2 h10 h11 h12 h13 h14 h15, DE.far h0 h1 h2 h3 h4 h5 h6 h7 h8 h9 h10 h11 h12 h13 h14 h15⟩
  · -- neg
    intro dp i j a b k h0 h1 ⟨ih, hDE⟩ h3 h4
    refine ⟨j_sg ih h1 ?_ ?_, DE.neg h0 h1 hDE h3 h4⟩
    · intro d A2 B1 B2 h v dr hA hB2 hB1 hc hv s1 s2 k1 k2 k3 e
      have i1 := ih.1
      rcases h3 with ⟨rfl, h3⟩ | ⟨rfl, h3⟩
      · obtain ⟨A3, q1, q2⟩ := op_50 (N := N) (s := s) (pl := pl) hA.1 hc k3 hA.2.1 k1 ((hA.at_cd k3).trans h3)
        rw [hv] at q2
        exact ⟨A3, _, q1, q2, by rw [r_sg hB1.1 s1 (by omega) (.inl h0) e hB2.1, if_neg (by rw [h0]; decide), h4, show nI 0 = (0 : Int32) from rfl, ev_held0, Int64.toInt32_neg, Int32.toInt32_toInt64]⟩
      · obtain ⟨A3, q1, q2⟩ := op_70 (N := N) (s := s) (pl := pl) hA.1 hc k3 hA.2.1 k1 ((hA.at_cd k3).trans h3)
        rw [hv] at q2
        exact ⟨A3, _, q1, q2, by rw [r_sg hB1.1 s1 (by omega) (.inl h0) e hB2.1, if_neg (by rw [h0]; decide), h4, show nI 2 = (2 : Int32) from rfl, ev_held2]⟩
    · intro d B1 B2 v hB1 hB2 s1 k2 e
      have i1 := ih.1
      obtain ⟨r, er⟩ := held_ex (N := N) (B := B2) (k := mn i) (x := -v.toInt64)
      exact ⟨r, by rw [r_sg hB1.1 s1 (by omega) (.inl h0) e hB2.1, if_neg (by rw [h0]; decide), er]⟩
  · -- not
    intro dp i j a b h0 h1 ⟨ih, hDE⟩ h3
    refine ⟨j_sg ih h1 ?_ ?_, DE.nott h0 h1 hDE h3⟩
    · intro d A2 B1 B2 h v dr hA hB2 hB1 hc hv s1 s2 k1 k2 k3 e
      have i1 := ih.1
      obtain ⟨A3, q1, q2⟩ := op_51 (N := N) (s := s) (pl := pl) hA.1 hc k3 hA.2.1 k1 ((hA.at_cd k3).trans h3)
      rw [hv] at q2
      exact ⟨A3, _, q1, q2, by rw [r_sg hB1.1 s1 (by omega) (.inr h0) e hB2.1, if_pos h0]⟩
    · intro d B1 B2 v hB1 hB2 s1 k2 e
      have i1 := ih.1
      exact ⟨_, by rw [r_sg hB1.1 s1 (by omega) (.inr h0) e hB2.1, if_pos h0]⟩
  · -- chain's start
    intro dp l i j a b k h0 ⟨⟨p1, p2, ih⟩, hDE⟩
    refine ⟨⟨p1, p2, fun d A B h dr hA hB hc h14 hs k1 k2 k3 k4 => ?_⟩, DE.ch h0 hDE⟩
    have hz : rz (l + 1) ≤ rz (10 + l) := by rcases h0 with rfl | rfl | rfl | rfl <;> decide
    have hl : lv (l + 1) = l + 1 := if_pos (by omega)
    obtain ⟨N', rfl⟩ : ∃ n, N = n + 1 := ⟨N - 1, by omega⟩
    rcases ih d A B h dr hA hB hc h14 hs (by omega) k2 k3 k4 with g | g
    · obtain ⟨n, A2, B2, v, dr2, g1, g2, g3, g4, g5, g6, g7, g8, g9⟩ := g.out (by omega)
      exact .inl (JO.hi (c := 0) g1 g2 g3 g4 g5 g6 (by omega) (by rw [RL_lv hB.1.1 h0, bC_t g7]; rfl) g8 g9)
    · obtain ⟨n, A2, B2, v, y, j', g1, g2, g3, g4, g5, g6, g7, g8, g9⟩ := g
      rw [hl] at g5
      exact .inr (JF.mk (l := l) (by unfold lv; rw [if_neg (by omega)]; omega) g1 g2 g3 g4 (by rw [RL_lv hB.1.1 h0, bC_t g5, f3_lo (hB.ex g6).1.1 (by rw [g7]; exact g4)]) g6 g7 g8 g9)
  · -- chain's step
    intro dp l i m j a b b' k sg op h0 ⟨⟨p1, p2, ih1⟩, hD1⟩ h2 h3 ⟨⟨p3, p4, ih2⟩, hD2⟩ h5 h6
    refine ⟨⟨by omega, by omega, fun d A B h dr hA hB hc h14 hs k1 k2 k3 k4 => ?_⟩, DE.chs h0 hD1 h2 h3 hD2 h5 h6⟩
    have hl : lv (10 + l) = l := by unfold lv; rw [if_neg (by omega)]; omega
    have hl1 : lv (l + 1) = l + 1 := if_pos (by omega)
    have hz : rz (l + 1) + 1 ≤ rz (10 + l) := by rcases h0 with rfl | rfl <;> decide
    rcases ih1 d A B h dr hA hB hc h14 hs k1 k2 (by omega) (by omega) with g | g
    · obtain ⟨n, A2, B2, v, dr2, c, g1, g2, g3, g4, g5, g6, g10, g7, g8, g9⟩ := g.ou
      have hA2 := hA.ex g3
      have hB2 := hB.ex g8
      obtain ⟨f, hf⟩ : ∃ f, N - c = f + 1 + 1 := ⟨N - c - 2, by omega⟩
      have hf1 : N - (c + 1) = f + 1 := by omega
      rcases ih2 d A2 (atB B2 (m + 1)) (h + 1) dr2 hA2 (hB2.ex atB_s) g4 g6 (atB_S g9) (by omega) k2 k3 (by omega) with q | q
      · obtain ⟨n3, A3, B3, v3, dr3, q1, q2, q3, q4, q5, q6, q7, q8, q9⟩ := q.out (by omega)
        have hA3 := hA2.ex q3
        have hB3 := (hB2.ex (atB_s (i := m + 1))).ex q8
        have hv : A3.D 119 h = v := by rw [q3.1 119 h (by unfold EXA; omega)]; exact g5
        have sA := g3.tr (q3.mono (EXA.up (show h ≤ h + 1 by omega)))
        rcases j_op (N := N) (s := s) (pl := pl) (n := f + 1) h0 h2 h3 h5 h6 hA3 hB2 hB3 q4 hv q5 g9 q9 q7 (by omega) (by omega) (by omega) with ⟨A4, x, r1, r2, r3⟩ | ⟨A4, r1, r2, r3⟩
        · exact .inl (JO.hi (c := c + 1) (by omega) ((g2.tr q2).tr r1) (sA.tr r2.1) r2.2.1 r2.2.2.1 (r2.2.2.2.trans q6) (by omega) (by rw [g7, hf, hf1, r3]) ((g8.tr atB_s).tr q8) q9)
        · refine .inr (JF.mk (j' := j) hl (by omega) ((g2.tr q2).tr r1) ⟨(sA.mono (EXA.up (by omega))).tr r2.1, r2.2⟩ (by decide) (v := 0) (B2 := B3.sD 611 10 1) ?_ (same.sD ((g8.tr atB_s).tr q8) ⟨rfl, by omega⟩) rds (by rw [rdf (by decide)]; exact q9.1) (by omega))
          rw [g7, hf, r3, f3_lo (show Gr (B3.sD 611 10 1) from hB3.1.1) (by rw [rds]; decide)]
      · obtain ⟨n3, A3, B3, v3, y, j', q1, q2, q3, q4, q5, q6, q7, q8, q9⟩ := q
        rw [hl1] at q5
        have hB3 := (hB2.ex (atB_s (i := m + 1))).ex q6
        have w10 : (0 : Int32) < B3.D 611 10 := by rw [q7]; exact q4
        have fin : ∃ x, RLo N d l (f + 1 + 1) v B2 = some (x, B3) := by
          unfold sgT at h3
          simp only [List.mem_cons, List.not_mem_nil, Prod.mk.injEq, or_false] at h3
          rcases h0 with rfl | rfl
          · have ht : ty m = 43 ∨ ty m = 45 := by
              have : sg = 18 ∨ sg = 19 := by omega
              rcases this with rfl | rfl
              · exact .inl h2
              · exact .inr h2
            obtain ⟨r, er⟩ := held_ex (N := N) (B := B3) (k := mn m) (x := if ty m = 43 then v.toInt64 + v3.toInt64 else v.toInt64 - v3.toInt64)
            exact ⟨r, by rw [r_sum hB2.1 g9 (by omega) ht q5 hB3.1, bC_t er, f3_lo hB3.1.1 w10]⟩
          · have ht : ty m = 42 ∨ ty m = 47 ∨ ty m = 37 := by
              have : sg = 20 ∨ sg = 21 ∨ sg = 22 := by omega
              rcases this with rfl | rfl | rfl
              · exact .inl h2
              · exact .inr (.inl h2)
              · exact .inr (.inr h2)
            exact ⟨0, by rw [r_prd hB2.1 g9 (by omega) ht q5 hB3.1, if_pos w10, f3_lo hB3.1.1 w10]⟩
        obtain ⟨x, ex⟩ := fin
        exact .inr (JF.mk hl (by omega) (g2.tr q2) ⟨(g3.mono (EXA.up (by omega))).tr q3.1, q3.2⟩ q4 (by rw [g7, hf, ex]) ((g8.tr atB_s).tr q6) q7 q8 q9)
    · obtain ⟨n, A2, B2, v, y, j', g1, g2, g3, g4, g5, g6, g7, g8, g9⟩ := g
      exact .inr ⟨n, A2, B2, v, y, j', by omega, g2, g3, g4, g5, g6, g7, g8, by omega⟩
  · -- and, or
    intro dp l i m j a b b' h0 ⟨⟨p1, p2, ih1⟩, hD1⟩ h2 h3 h4 ⟨⟨p3, p4, ih2⟩, hD2⟩
    refine ⟨⟨by omega, by omega, fun d A B h dr hA hB hc h14 hs k1 k2 k3 k4 => ?_⟩, DE.chj h0 hD1 h2 h3 h4 hD2⟩
    have hl : lv (10 + l) = l := by unfold lv; rw [if_neg (by omega)]; omega
    have hl1 : lv (l + 1) = l + 1 := if_pos (by omega)
    have hz : rz (l + 1) ≤ rz (10 + l) := by rcases h0 with rfl | rfl <;> decide
    rcases ih1 d A B h dr hA hB hc h14 hs k1 k2 (by omega) (by omega) with g | g
    · obtain ⟨n, A2, B2, v, dr2, c, g1, g2, g3, g4, g5, g6, g10, g7, g8, g9⟩ := g.ou
      have hA2 := hA.ex g3
      have hB2 := hB.ex g8
      obtain ⟨f, hf⟩ : ∃ f, N - c = f + 1 + 1 := ⟨N - c - 2, by omega⟩
      have hf1 : N - (c + 1) = f + 1 := by omega
      have hB3 := (hB2.ex (atB_s (i := m + 1))).ex (idB_s (z := 0))
      have hB4 := (hB2.ex (atB_s (i := m + 1))).ex (idB_s (z := 1))
      have cb := (hA2.at_cd (show b < cs by omega)).trans h3
      have cb1 := (hA2.at_cd (show b + 1 < cs by omega)).trans h4
      have z01 : (0 : Int32) + 1 = nI 1 := rfl
      have z00 : (0 : Int32) + 0 = 0 := rfl
      have z11 : nI 1 - 1 = (0 : Int32) := rfl
      have z20 : (0 : Int32) - 0 = 0 := rfl
      -- the right side is left out
      have skip : ∃ v3 B3, RL N d (l + 1) (idB (atB B2 (m + 1)) (nI 1)) = some (v3, B3) ∧ same EXB (idB (atB B2 (m + 1)) (nI 1)) B3 ∧ BS B3 j (nI 1) dr2 := by
        have hr : rk (l + 1) ≤ 2 := by rcases h0 with rfl | rfl <;> decide
        obtain ⟨v3, B3, e3, s3, s4⟩ := ((idl (N := N) (w := w) (u := u) (ir := ir) (M := M) (Q := Q) (V := V) hE' hN hD2).2 d (idB (atB B2 (m + 1)) (nI 1)) 1 dr2 hB4 (idB_S (atB_S g9)) (by omega) (by omega) k2 k3).out (by omega)
        exact ⟨v3, B3, e3, s3, s4⟩
      have run : RLo N d l (f + 1 + 1) v B2 = RLo N d l (f + 1 + 1) v B2 := rfl
      have right : (VP A2 A2 h b → True) := fun _ => trivial
      have go : ∀ A3, VR N s pl 1 A2 A3 → VP A2 A3 h (b + 2) → (∀ v3 B3, RL N d (l + 1) (idB (atB B2 (m + 1)) 0) = some (v3, B3) → Gr B3 → RLo N d l (f + 1 + 1) v B2 = RLo N d l (f + 1) v3 (idB B3 (B3.D 611 12 - 0))) → JO N s pl d (10 + l) i j a b' h A B ∨ JF N s pl d (10 + l) j a b' A B := by
        intro A3 t1 ⟨t2, t3, t4⟩ rr
        have hA3 := hA2.ex t2
        have sA := g3.tr t2
        rcases ih2 d A3 (idB (atB B2 (m + 1)) 0) h dr2 hA3 hB3 t3 (t4.trans g6) (idB_S (atB_S g9)) (by omega) k2 k3 k4 with q | q
        · obtain ⟨n3, A4, B4, v3, dr3, q1, q2, q3, q4, q5, q6, q7, q8, q9⟩ := q.out (by omega)
          have hB5 := hB3.ex q8
          have r := rr v3 B4 q7 hB5.1.1
          rw [q9.2.2.1, z20] at r
          exact .inl (JO.hi (c := c + 1) (by omega) ((g2.tr t1).tr q2) (sA.tr q3) q4 q5 q6 (by omega) (by rw [g7, hf, hf1, r]) ((((g8.tr atB_s).tr idB_s).tr q8).tr idB_s) (idB_S q9))
        · obtain ⟨n3, A4, B4, v3, y, j', q1, q2, q3, q4, q5, q6, q7, q8, q9⟩ := q
          rw [hl1] at q5
          have hB5 := hB3.ex q6
          have r := rr v3 B4 q5 hB5.1.1
          have y10 : (idB B4 (B4.D 611 12 - 0)).D 611 10 = y := by unfold idB; rw [rdf (by decide)]; exact q7
          refine .inr (JF.mk hl (by omega) ((g2.tr t1).tr q2) ⟨(sA.mono (EXA.up (by omega))).tr q3.1, q3.2⟩ q4 (by rw [g7, hf, r, f3_lo (hB5.ex idB_s).1.1 (by rw [y10]; exact q4)]) ((((g8.tr atB_s).tr idB_s).tr q6).tr idB_s) y10 (by unfold idB; rw [rdf (by decide)]; exact q8) q9)
      have stay : ∀ A3, VR N s pl 1 A2 A3 → VO A2 A3 h b' v → (∀ v3 B3, RL N d (l + 1) (idB (atB B2 (m + 1)) (nI 1)) = some (v3, B3) → Gr B3 → RLo N d l (f + 1 + 1) v B2 = RLo N d l (f + 1) v (idB B3 (B3.D 611 12 - 1))) → JO N s pl d (10 + l) i j a b' h A B ∨ JF N s pl d (10 + l) j a b' A B := by
        intro A3 t1 ⟨t2, t3, t4, t5⟩ rr
        obtain ⟨v3, B3, e3, s3, s4⟩ := skip
        have r := rr v3 B3 e3 (hB4.ex s3).1.1
        rw [s4.2.2.1, z11] at r
        exact .inl (JO.hi (c := c + 1) (by omega) (g2.tr t1) (g3.tr t2) t3 t4 (t5.trans g6) (by omega) (by rw [g7, hf, hf1, r]) ((((g8.tr atB_s).tr idB_s).tr s3).tr idB_s) (idB_S s4))
      rcases h0 with rfl | rfl
      · have ht : ty m = 10 := h2
        by_cases q : v = 0
        · obtain ⟨A3, t1, t2⟩ := op_5d (N := N) (s := s) (pl := pl) cb1 (g5.trans q) hA2.1 g4 (by omega) hA2.2.1 (by omega) cb
          exact go A3 t1 t2 (fun v3 B3 e3 hG => by rw [r_or hB2.1 g9 (by omega) ht (by rw [if_pos q, z00]; exact e3) hG, if_pos q, if_pos q])
        · obtain ⟨A3, t1, t2⟩ := op_5k (N := N) (s := s) (pl := pl) cb1 (by rw [g5]; exact q) hA2.1 g4 (by omega) hA2.2.1 (by omega) cb
          rw [g5] at t2
          exact stay A3 t1 t2 (fun v3 B3 e3 hG => by rw [r_or hB2.1 g9 (by omega) ht (by rw [if_neg q, z01]; exact e3) hG, if_neg q, if_neg q])
      · have ht : ty m = 9 := h2
        by_cases q : v = 0
        · obtain ⟨A3, t1, t2⟩ := op_4k (N := N) (s := s) (pl := pl) cb1 (g5.trans q) hA2.1 g4 (by omega) hA2.2.1 (by omega) cb
          rw [g5] at t2
          exact stay A3 t1 t2 (fun v3 B3 e3 hG => by rw [r_and hB2.1 g9 (by omega) ht (by rw [if_pos q, z01]; exact e3) hG, if_pos q, if_pos q, q])
        · obtain ⟨A3, t1, t2⟩ := op_4d (N := N) (s := s) (pl := pl) cb1 (by rw [g5]; exact q) hA2.1 g4 (by omega) hA2.2.1 (by omega) cb
          exact go A3 t1 t2 (fun v3 B3 e3 hG => by rw [r_and hB2.1 g9 (by omega) ht (by rw [if_neg q, z00]; exact e3) hG, if_neg q, if_neg q])
    · obtain ⟨n, A2, B2, v, y, j', g1, g2, g3, g4, g5, g6, g7, g8, g9⟩ := g
      exact .inr ⟨n, A2, B2, v, y, j', by omega, g2, g3, g4, g5, g6, g7, g8, by omega⟩
  · -- chain's end
    intro dp l i j a b k h0 ⟨⟨p1, p2, ih⟩, hDE⟩ h2
    refine ⟨⟨p1, p2, fun d A B h dr hA hB hc h14 hs k1 k2 k3 k4 => ?_⟩, DE.cls h0 hDE h2⟩
    have hz : rz (10 + l) = rz l := by rcases h0 with rfl | rfl | rfl | rfl <;> decide
    have hl : lv (10 + l) = l := by unfold lv; rw [if_neg (by omega)]; omega
    have hl1 : lv l = l := if_pos (by omega)
    rcases ih d A B h dr hA hB hc h14 hs (by omega) k2 k3 k4 with g | g
    · obtain ⟨n, A2, B2, v, dr2, c, g1, g2, g3, g4, g5, g6, g10, g7, g8, g9⟩ := g.ou
      obtain ⟨f, hf⟩ : ∃ f, N - c = f + 1 := ⟨N - c - 1, by omega⟩
      exact .inl (JO.lo (by omega) g1 g2 g3 g4 g5 g6 (by rw [g7, hf, r_end (hB.ex g8).1 g9 k3 h0 h2]) g8 g9)
    · obtain ⟨n, A2, B2, v, y, j', g1, g2, g3, g4, g5, g6, g7, g8, g9⟩ := g
      rw [hl] at g5
      exact .inr (JF.mk hl1 g1 g2 g3 g4 g5 g6 g7 g8 g9)
  · -- no comparison
    intro dp i j a b k ⟨⟨p1, p2, ih⟩, hDE⟩ h1
    refine ⟨⟨p1, p2, fun d A B h dr hA hB hc h14 hs k1 k2 k3 k4 => ?_⟩, DE.cm0 hDE h1⟩
    have hz : rz 3 ≤ rz 2 := by decide
    rcases ih d A B h dr hA hB hc h14 hs (by omega) k2 k3 k4 with g | g
    · obtain ⟨n, A2, B2, v, dr2, g1, g2, g3, g4, g5, g6, g7, g8, g9⟩ := g.out (by decide)
      exact .inl (JO.lo (by decide) g1 g2 g3 g4 g5 g6 (r_cm0 hB.1.1 g7 (hB.ex g8).1 g9 k3 h1) g8 g9)
    · obtain ⟨n, A2, B2, v, y, j', g1, g2, g3, g4, g5, g6, g7, g8, g9⟩ := g
      exact .inr (JF.mk (l := 2) rfl g1 g2 g3 g4 (r_cmf hB.1.1 g5 (by rw [g7]; exact g4)) g6 g7 g8 g9)
  · -- comparison
    intro dp i m j a b b' k sg op ⟨⟨p1, p2, ih1⟩, hD1⟩ h1 h2 ⟨⟨p3, p4, ih2⟩, hD2⟩ h4
    refine ⟨⟨by omega, by omega, fun d A B h dr hA hB hc h14 hs k1 k2 k3 k4 => ?_⟩, DE.cmp hD1 h1 h2 hD2 h4⟩
    have hz : rz 3 + 1 = rz 2 := by decide
    have hop : op = 57 ∨ op = 58 ∨ op = 59 ∨ op = 60 ∨ op = 61 ∨ op = 62 := by
      have h2' := h2
      unfold cmT at h2'
      simp only [List.mem_cons, List.not_mem_nil, Prod.mk.injEq, or_false] at h2'
      omega
    rcases ih1 d A B h dr hA hB hc h14 hs (by omega) k2 (by omega) (by omega) with g | g
    · obtain ⟨n, A2, B2, v, dr2, g1, g2, g3, g4, g5, g6, g7, g8, g9⟩ := g.out (by decide)
      have hA2 := hA.ex g3
      have hB2 := hB.ex g8
      rcases ih2 d A2 (atB B2 (m + 1)) (h + 1) dr2 hA2 (hB2.ex atB_s) g4 g6 (atB_S g9) (by omega) k2 k3 (by omega) with q | q
      · obtain ⟨n3, A3, B3, v3, dr3, q1, q2, q3, q4, q5, q6, q7, q8, q9⟩ := q.out (by decide)
        have hA3 := hA2.ex q3
        have hv : A3.D 119 h = v := by rw [q3.1 119 h (by unfold EXA; omega)]; exact g5
        have sA := g3.tr (q3.mono (EXA.up (show h ≤ h + 1 by omega)))
        obtain ⟨A4, r1, r2⟩ := op_cm (N := N) (s := s) (pl := pl) hop hA3.1 q4 (by omega) hA3.2.1 (by omega) ((hA3.at_cd (by omega)).trans h4)
        rw [hv, q5] at r2
        exact .inl (JO.lo (by decide) (by omega) ((g2.tr q2).tr r1) (sA.tr r2.1) r2.2.1 r2.2.2.1 (r2.2.2.2.trans q6) (r_cmp hB.1.1 g7 hB2.1 g9 (by omega) h1 h2 q7) ((g8.tr atB_s).tr q8) q9)
      · obtain ⟨n3, A3, B3, v3, y, j', q1, q2, q3, q4, q5, q6, q7, q8, q9⟩ := q
        exact .inr (JF.mk (l := 2) rfl (by omega) (g2.tr q2) ⟨(g3.mono (EXA.up (by omega))).tr q3.1, q3.2⟩ q4 (r_cmp hB.1.1 g7 hB2.1 g9 (by omega) h1 h2 q5) ((g8.tr atB_s).tr q6) q7 q8 q9)
    · obtain ⟨n, A2, B2, v, y, j', g1, g2, g3, g4, g5, g6, g7, g8, g9⟩ := g
      exact .inr (JF.mk (l := 2) rfl (by omega) g2 g3 g4 (r_cmf hB.1.1 g5 (by rw [g7]; exact g4)) g6 g7 g8 (by omega))
end Par
