/-! ===== if ===== -/
section Par
variable {N p wo inp cs w u ir M K0 : Nat} {s pl : Int32} {ty mn nu cd : Nat → Int32} {E Q : Nat → Nat → Nat} {V : Nat → Nat → Int32} {nL lc : Nat} {lk : Nat → Nat} {hd : Nat → Int32}
theorem SIN.ea {i a a2 h h2 h3 mk st la z : Nat} {dr : Int32} {A A2 B : Hp} (hF : (FIX N p wo w u K0 M E)) (hI : (SIN p wo inp cs w u ir M ty mn nu cd E Q V nL lc hd K0 i a h A la z B mk st dr)) (hs : same (EXA h3) A A2) (hc : CS A2 a2 h2) (h14 : A2.D 117 14 = A.D 117 14) : (SIN p wo inp cs w u ir M ty mn nu cd E Q V nL lc hd K0 i a2 h2 A2 la z B mk st dr) := by
  obtain ⟨i1, i2, i3, i4, i5⟩ := hI
  exact ⟨i1.of hF.1 hF.2.2.2.1 hF.2.2.2.2.1 i5.1 (hs.exS i5.1) (fun a f y => by unfold EXA at y; omega), i2, hc, i4, i5.ex hs same.rf (h14.trans i5.2.2.2.2.2.2.2.1)⟩
theorem s_jf {i b t mk st la z : Nat} {v dr : Int32} {A B : Hp} (hF : (FIX N p wo w u K0 M E)) (hI : (SIN p wo inp cs w u ir M ty mn nu cd E Q V nL lc hd K0 i b 1 A la z B mk st dr)) (hv : A.D 119 0 = v) (hc : cd b = 3) (hc1 : cd (b + 1) = nI t) (hb : b + 1 < cs) : (v = 0 → ∃ A2, VR N s pl 1 A A2 ∧ same (EXA 0) A A2 ∧ (SIN p wo inp cs w u ir M ty mn nu cd E Q V nL lc hd K0 i t 0 A2 la z B mk st dr)) ∧ (¬ v = 0 → ∃ A2, VR N s pl 1 A A2 ∧ same (EXA 0) A A2 ∧ (SIN p wo inp cs w u ir M ty mn nu cd E Q V nL lc hd K0 i (b + 2) 0 A2 la z B mk st dr)) := by
  have i1 := hI.1
  have i3 := hI.2.2.1
  constructor
  · intro q
    obtain ⟨A2, r1, r2, r3, r4⟩ := op_3j (N := N) (s := s) (pl := pl) (h := 0) ((i1.1.at_cd (by omega)).trans hc1) (hv.trans q) i1.1.1 i3 hb i1.1.2.1 (by decide) ((i1.1.at_cd (by omega)).trans hc)
    exact ⟨A2, r1, r2, hI.ea hF r2 r3 r4⟩
  · intro q
    obtain ⟨A2, r1, r2, r3, r4⟩ := op_3n (N := N) (s := s) (pl := pl) (h := 0) ((i1.1.at_cd (by omega)).trans hc1) (by rw [hv]; exact q) i1.1.1 i3 hb i1.1.2.1 (by decide) ((i1.1.at_cd (by omega)).trans hc)
    exact ⟨A2, r1, r2, hI.ea hF r2 r3 r4⟩
theorem s_jp {i b t mk st la z : Nat} {dr : Int32} {A B : Hp} (hF : (FIX N p wo w u K0 M E)) (hI : (SIN p wo inp cs w u ir M ty mn nu cd E Q V nL lc hd K0 i b 0 A la z B mk st dr)) (hc : cd b = 2) (hc1 : cd (b + 1) = nI t) (hb : b + 1 < cs) : ∃ A2, VR N s pl 1 A A2 ∧ same (EXA 0) A A2 ∧ (SIN p wo inp cs w u ir M ty mn nu cd E Q V nL lc hd K0 i t 0 A2 la z B mk st dr) := by
  have i1 := hI.1
  have i3 := hI.2.2.1
  obtain ⟨A2, r1, r2, r3, r4⟩ := op_2j (N := N) (s := s) (pl := pl) ((i1.1.at_cd (by omega)).trans hc1) i1.1.1 i3 hb i1.1.2.1 ((i1.1.at_cd (by omega)).trans hc)
  exact ⟨A2, r1, r2, hI.ea hF r2 r3 r4⟩
theorem c36f {B : Hp} {o : Orc_RunS} {l : Int32} (hG : Gr B) (h10 : 0 < B.D 611 10) : B_MRunner_chooses_36 N o 611 l B = some ((), B) := by
  unfold B_MRunner_chooses_36
  rw [ck_t (rS_611 hG), bnd_t, if_pos h10]
theorem c36n {B : Hp} {o : Orc_RunS} {l : Int32} {j : Nat} {dr : Int32} (h : RB B w u ir M ty mn nu) (hs : BS B j 0 dr) (hj : j < M) (ht : ¬ ty j = 216) : B_MRunner_chooses_36 N o 611 l B = some ((), B) := by
  obtain ⟨t0, t1, t2, t3, t4, t5, t6⟩ := h.T
  have hM := h.2.2.2.2.2.2.2.1
  unfold B_MRunner_chooses_36
  rw [ck_t (rS_611 h.1), bnd_t, hs.2.1, if_neg (by decide), rf_t h.2.2.2.1, ck_t t0, rf_t t1, bnd_t, hs.1, ar_t t2, rdI (show j < 6002 by omega) (by decide), (h.2.2.2.2.2.2.2.2 j hj).1, if_neg ht]
theorem c36e {B : Hp} {o : Orc_RunS} {l : Int32} {j : Nat} {dr : Int32} (h : RB B w u ir M ty mn nu) (hs : BS B j 0 dr) (hj : j < M) (ht : ty j = 216) : B_MRunner_chooses_36 N o 611 l B = (if l = (0 : Int32) then o 611 (atB B (j + 1)) else F_MRunner_skips N 611 (atB B (j + 1))) := by
  obtain ⟨t0, t1, t2, t3, t4, t5, t6⟩ := h.T
  have hM := h.2.2.2.2.2.2.2.1
  unfold B_MRunner_chooses_36
  rw [ck_t (rS_611 h.1), bnd_t, hs.2.1, if_neg (by decide), rf_t h.2.2.2.1, ck_t t0, rf_t t1, bnd_t, hs.1, ar_t t2, rdI (show j < 6002 by omega) (by decide), (h.2.2.2.2.2.2.2.2 j hj).1, if_pos ht, bnd_t, nI_1, bnd_t]
  by_cases q : l = 0
  · rw [if_pos q, if_pos q]
    exact bC_eta
  · rw [if_neg q, if_neg q]
    exact bC_eta
/-- the condition of an if: it fails, or the class stands behind the jump and the reference at the block -/
theorem s_ifc {dp i m a b c t mk st la z d : Nat} {dr : Int32} {A B : Hp} (hF : (FIX N p wo w u K0 M E)) (h0 : ty i = 215) (hD : DE ty mn nu cd E nL lc lk hd 0 dp (i + 1) m a b 3) (hc : cd b = 3) (hc1 : cd (b + 1) = nI t) (hI : (SIN p wo inp cs w u ir M ty mn nu cd E Q V nL lc hd K0 i a 0 A la z B mk st dr)) (hm : m < M) (hi : i < m) (hb : b + 2 ≤ c) (hc2 : c ≤ cs) :
    (SFL N s pl wo (Q 4 0 * Q 5 0) E (V 0 0) lc K0 (dsp N (X_RunS N d) B) a c A la z B st) ∨ ∃ A2 B2 dr2 y, ((y = 0 ∧ (∀ t', b + 1 ≤ t' → (PRE N s pl wo (Q 4 0 * Q 5 0) E lc V V a t' A la z A2 la z B B2 st st)) ∧ (SIN p wo inp cs w u ir M ty mn nu cd E Q V nL lc hd K0 m t 0 A2 la z B2 mk st dr2)) ∨ (y = 1 ∧ (PRE N s pl wo (Q 4 0 * Q 5 0) E lc V V a (b + 2) A la z A2 la z B B2 st st) ∧ (SIN p wo inp cs w u ir M ty mn nu cd E Q V nL lc hd K0 m (b + 2) 0 A2 la z B2 mk st dr2))) ∧ dsp N (X_RunS N d) B = (if y = (0 : Int32) then bC (F_MRunner_skips N 611 B2) fun v11 H12 => B_MRunner_chooses_36 N (X_RunS N d) 611 y H12 else bC (X_RunS N d 611 B2) fun v60 H61 => B_MRunner_chooses_36 N (X_RunS N d) 611 y H61) := by
  have hB1 := (hI.to (j := i + 1) hF)
  have e : ∀ v B2, (X_RunE N 50).1 611 (atB B (i + 1)) = some (v, B2) → dsp N (X_RunS N d) B = B_MRunner_chooses_12 N (X_RunS N d) 611 (if v = 0 then 0 else 1) B2 := by
    intro v B2 e1
    rw [dsp_h hI.2.1.1.1 (by omega) hI.2.2.2.1.1, h0, dsq_215]
    unfold F_MRunner_chooses
    rw [ck_t (rS_611 hB1.2.1.1.1.1), bC_t e1]
    by_cases q : v = 0
    · rw [if_pos q, if_pos q]
    · rw [if_neg q, if_neg q]
  rcases s_val (N := N) (s := s) (pl := pl) hF hD hB1 (by omega) hm (by omega) with ⟨n, A2, B2, v, dr2, g1, g2, g3, g4, g5, g6, g7⟩ | ⟨n, A2, B2, v, y, j', g1, g2, g3, g4, g5, g6, g7, g8, g9, g10⟩
  · obtain ⟨r1, r2⟩ := s_jf (N := N) (s := s) (pl := pl) hF g7 g4 hc hc1 (by omega)
    have e1 := e v B2 g5
    unfold B_MRunner_chooses_12 at e1
    rw [ck_t (rS_611 g7.2.1.1.1.1), bnd_t, g7.2.2.2.1.2.1, if_pos (by decide)] at e1
    by_cases q : v = 0
    · obtain ⟨A3, q1, q2, q3⟩ := r1 q
      rw [if_pos q] at e1
      have pp : ∀ t', b + 1 ≤ t' → (PRE N s pl wo (Q 4 0 * Q 5 0) E lc V V a t' A la z A3 la z B B2 st st) := fun t' ht' => ((PRE.at hI.2.2.2.2).tr (PRE.ex hB1.2.2.2.2 g1 g2 g3 g6)).tr ⟨1, by omega, by omega, q1, (q2.mono FRA.ea).exS g7.2.2.2.2.1, same.rf, fun _ _ _ => rfl⟩
      exact .inr ⟨A3, B2, dr2, 0, .inl ⟨rfl, pp, q3⟩, e1⟩
    · obtain ⟨A3, q1, q2, q3⟩ := r2 q
      rw [if_neg q] at e1
      have pp : (PRE N s pl wo (Q 4 0 * Q 5 0) E lc V V a (b + 2) A la z A3 la z B B2 st st) := ((PRE.at hI.2.2.2.2).tr (PRE.ex hB1.2.2.2.2 g1 g2 g3 g6)).tr ⟨1, by omega, by omega, q1, (q2.mono FRA.ea).exS g7.2.2.2.2.1, same.rf, fun _ _ _ => rfl⟩
      exact .inr ⟨A3, B2, dr2, 1, .inr ⟨rfl, pp, q3⟩, e1⟩
  · have e1 := e v B2 g5
    unfold B_MRunner_chooses_12 at e1
    rw [ck_t (rS_611 g10.1), bnd_t, g7, if_neg (fun z => by have h4 := g4; rw [Int32.lt_iff_toInt_lt] at h4; rw [Int32.le_iff_toInt_le] at z; omega)] at e1
    exact .inl (SFL.pre (PRE.at hI.2.2.2.2) (SFL.ex hB1.2.2.2.2 (by omega) g2 g3 g4 g6 e1 same.rf (fun _ => rfl) g7))
theorem RBf {B B2 : Hp} (hF : (FIX N p wo w u K0 M E)) (h : RB B w u ir M ty mn nu) (hs : same (FRB E) B B2) : RB B2 w u ir M ty mn nu := h.sm hs (fun i => by
  have := lT_le hF.2.2.2.2.2.1
  unfold FRB
  omega)
theorem s_iff {dp i m j a b c : Nat} (hF : (FIX N p wo w u K0 M E)) (h0 : ty i = 215) (hD : DE ty mn nu cd E nL lc lk hd 0 dp (i + 1) m a b 3) (hc : cd b = 3) (hc1 : cd (b + 1) = nI c) (hdp : dp < 20) (h : (SP2 N s pl p wo inp cs w u ir M ty mn nu cd E K0 nL lc hd (dp + 1) m j (b + 2) c)) (ht : ty j ≠ 216) (him : i + 1 < m) (hab : a < b) : (SP0 N s pl p wo inp cs w u ir M ty mn nu cd E K0 nL lc hd dp i j a c nL hd) := by
  obtain ⟨⟨j1, rfl, hmj⟩, q1, q2, g⟩ := h
  refine ⟨by omega, by omega, by omega, fun d Q V A la z B mk st dr hI k1 k2 k3 k4 k5 => ?_⟩
  obtain ⟨d, rfl⟩ : ∃ e, d = e + 1 := ⟨d - 1, by omega⟩
  rcases s_ifc (N := N) (s := s) (pl := pl) (d := d + 1) (c := c) hF h0 hD hc hc1 hI (by omega) (by omega) q2 k5 with x | ⟨A2, B2, dr2, y, x, e⟩
  · exact .inr x
  · rcases x with ⟨rfl, x1, x2⟩ | ⟨rfl, x1, x2⟩
    · have x3 := x2.to (j := j1 + 1) hF
      rw [if_pos rfl, bC_t (ev_skp x2.2.1.1.1 (by omega) x2.2.2.2.1.1 hmj), c36n x3.2.1.1.1 x3.2.2.2.1 k4 ht] at e
      exact .inl ⟨A2, la, z, _, V, st, mk, dr2, (x1 c (by omega)).tr (PRE.at x2.2.2.2.2), e, x3⟩
    · rw [if_neg (by decide)] at e
      rcases g d Q V A2 la z B2 mk st dr2 x2 (by omega) (by omega) (by omega) k4 k5 with t | t
      · obtain ⟨A3, la3, z3, B3, V3, st3, mk3, dr3, t1, t2, t3⟩ := t
        rw [bC_t t2, c36n t3.2.1.1.1 t3.2.2.2.1 k4 ht] at e
        exact .inl ⟨A3, la3, z3, B3, V3, st3, mk3, dr3, x1.tr t1, e, t3⟩
      · refine .inr (SFL.pre x1 (t.then (by omega) (fun B3 y1 y2 y3 => ⟨B3, ?_, same.rf, y3⟩)))
        rw [e, bC_t y1, c36f (RBf hF x2.2.1.1.1 y3).1 y2]
theorem s_ife {dp i m q j a b c c2 : Nat} (hF : (FIX N p wo w u K0 M E)) (h0 : ty i = 215) (hD : DE ty mn nu cd E nL lc lk hd 0 dp (i + 1) m a b 3) (hc : cd b = 3) (hc1 : cd (b + 1) = nI (c + 2)) (hdp : dp < 20) (h : (SP2 N s pl p wo inp cs w u ir M ty mn nu cd E K0 nL lc hd (dp + 1) m q (b + 2) c)) (ht : ty q = 216) (hcc : cd c = 2) (hcc1 : cd (c + 1) = nI c2) (h2 : (SP2 N s pl p wo inp cs w u ir M ty mn nu cd E K0 nL lc hd (dp + 1) (q + 1) j (c + 2) c2)) (him : i + 1 < m) (hab : a < b) : (SP0 N s pl p wo inp cs w u ir M ty mn nu cd E K0 nL lc hd dp i j a c2 nL hd) := by
  obtain ⟨⟨j1, rfl, hmj⟩, q1, q2, g⟩ := h
  obtain ⟨⟨j2, rfl, hmj2⟩, r1, r2, g2⟩ := h2
  refine ⟨by omega, by omega, by omega, fun d Q V A la z B mk st dr hI k1 k2 k3 k4 k5 => ?_⟩
  obtain ⟨d, rfl⟩ : ∃ e, d = e + 1 := ⟨d - 1, by omega⟩
  rcases s_ifc (N := N) (s := s) (pl := pl) (d := d + 1) (c := c2) hF h0 hD hc hc1 hI (by omega) (by omega) (by omega) k5 with x | ⟨A2, B2, dr2, y, x, e⟩
  · exact .inr x
  · rcases x with ⟨rfl, x1, x2⟩ | ⟨rfl, x1, x2⟩
    · have x3 := x2.to (j := j1 + 1) hF
      have x4 := x3.to (j := j1 + 1 + 1) hF
      rw [if_pos rfl, bC_t (ev_skp x2.2.1.1.1 (by omega) x2.2.2.2.1.1 hmj), c36e x3.2.1.1.1 x3.2.2.2.1 (by omega) ht, if_pos rfl] at e
      have pp := ((x1 (c + 2) (by omega)).tr (PRE.at x2.2.2.2.2)).tr (PRE.at (N := N) (s := s) (pl := pl) (Q := Q) (lc := lc) (j := j1 + 1 + 1) x3.2.2.2.2)
      rw [e]
      rcases g2 d Q V A2 la z _ mk st dr2 x4 (by omega) (by omega) (by omega) k4 k5 with t | t
      · exact .inl (t.pre pp)
      · exact .inr (t.pre pp)
    · rw [if_neg (by decide)] at e
      rcases g d Q V A2 la z B2 mk st dr2 x2 (by omega) (by omega) (by omega) (by omega) (by omega) with t | t
      · obtain ⟨A3, la3, z3, B3, V3, st3, mk3, dr3, t1, t2, t3⟩ := t
        obtain ⟨A4, y1, y2, y3⟩ := s_jp (N := N) (s := s) (pl := pl) hF t3 hcc hcc1 (by omega)
        have y4 := y3.to (j := j1 + 1 + 1) hF
        have y5 := y4.to (j := j2 + 1) hF
        rw [bC_t t2, c36e t3.2.1.1.1 t3.2.2.2.1 (by omega) ht, if_neg (by decide), ev_skp y4.2.1.1.1 (by omega) y4.2.2.2.1.1 hmj2] at e
        have pj : (PRE N s pl wo (Q 4 0 * Q 5 0) E lc V3 V3 c c2 A3 la3 z3 A4 la3 z3 B3 B3 st3 st3) := ⟨1, by omega, by omega, y1, (y2.mono FRA.ea).exS t3.2.2.2.2.1, same.rf, fun _ _ _ => rfl⟩
        exact .inl ⟨A4, la3, z3, _, V3, st3, mk3, dr3, (((x1.tr t1).tr pj).tr (PRE.at y3.2.2.2.2)).tr (PRE.at y4.2.2.2.2), e, y5⟩
      · refine .inr (SFL.pre x1 (t.then (by omega) (fun B3 y1 y2 y3 => ⟨B3, ?_, same.rf, y3⟩)))
        rw [e, bC_t y1, c36f (RBf hF x2.2.1.1.1 y3).1 y2]
end Par
