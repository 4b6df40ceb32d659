/-! ===== emit: its values ===== -/
/-- values of an emit -/
def SP4 (N : Nat) (s pl : Int32) (p wo inp cs w u ir M : Nat) (ty mn nu cd : Nat → Int32) (E : Nat → Nat → Nat) (K0 : Nat) (nL lc : Nat) (hd : Nat → Int32) (i j a b n e : Nat) : Prop :=
  i ≤ j ∧ a ≤ b ∧ (n = 0 → i = j ∧ a = b) ∧ ∀ Q V A la z B mk st dr, (SIN p wo inp cs w u ir M ty mn nu cd E Q V nL lc hd K0 i a 0 A la z B mk st dr) → e < E 9 0 → n ≤ E 10 e → j < M → b ≤ cs →
    (∃ (A2 B2 : Hp) (dr2 : Int32) (vs : Nat → Int32), (PRE N s pl wo (Q 4 0 * Q 5 0) E lc V V a b A la z A2 la z B B2 st st) ∧ (SIN p wo inp cs w u ir M ty mn nu cd E Q V nL lc hd K0 ((if n = 0 then j else j + 1)) b n A2 la z B2 mk st dr2) ∧ (∀ k, k < n → A2.D 119 k = vs k) ∧ ((∀ k, n ≤ k → vs k = 0) ∧ ∀ k, k < n → E 12 (4 * e + k) = 4 → SV E (vs k)) ∧ ∀ g, B_MRunner_emits_36 N 611 (g + n) (nI e) 0 0 0 0 0 B = B_MRunner_emits_36 N 611 g (nI e) (vs 0) (vs 1) (vs 2) (vs 3) (nI n) B2) ∨
    (∀ g, (SFL N s pl wo (Q 4 0 * Q 5 0) E (V 0 0) lc K0 (B_MRunner_emits_36 N 611 (g + n + 1) (nI e) 0 0 0 0 0 B) a b A la z B st))
section Par
variable {N p wo inp cs w u ir M K0 : Nat} {s pl : Int32} {ty mn nu cd : Nat → Int32} {E Q : Nat → Nat → Nat} {V : Nat → Nat → Int32} {nL lc : Nat} {lk : Nat → Nat} {hd : Nat → Int32}
theorem TXBk {B : Hp} {e : Nat} (h : SB B w u ir M ty mn nu E Q V nL lc hd) (he : e < E 9 0) : B.D (w + 16) e = nI (E 10 e) := h.2.2.2.2.1 e he
/-- the reference runs through behind a failure -/
theorem em_f {B : Hp} {e : Nat} {l2 l3 l4 l5 y : Int32} (h : RB B w u ir M ty mn nu) (he : e < 8) (h10 : B.D 611 10 = y) (hy : 0 < y) : ∃ B3, B_MRunner_emits_151 N 611 (nI e) l2 l3 l4 l5 B = some ((), B3) ∧ same EXB B B3 ∧ B3.D 611 10 = y := by
  have hG := h.1
  obtain ⟨t0, -⟩ := h.T
  have hT := h.2.1
  have ny : ¬ y ≤ 0 := fun z => by have h4 := hy; rw [Int32.lt_iff_toInt_lt] at h4; rw [Int32.le_iff_toInt_le] at z; omega
  have ny0 : ¬ y = 0 := fun z => by rw [z] at hy; exact absurd hy (by decide)
  have fin : ∀ (H : Hp) (x : Int32), Gr H → H.D 611 10 = y → same EXB B H → ∃ B3, B_MRunner_emits_173 N 611 (nI e) l2 l3 l4 l5 611 (B.D 611 11) x H = some ((), B3) ∧ same EXB B B3 ∧ B3.D 611 10 = y := fun H x hGH hHy hs => by
    unfold B_MRunner_emits_173 B_MRunner_emits_192 B_MRunner_emits_219 B_MRunner_emits_257
    have g1 : Gr (H.sD 611 11 (B.D 611 11 + x)) := hGH
    generalize hv1 : B.D 611 11 + x = v1 at *
    have g2 : Gr ((H.sD 611 11 v1).sD 611 11 (v1 + 3)) := hGH
    have g3 : Gr (((H.sD 611 11 v1).sD 611 11 (v1 + 3)).sD 611 11 (v1 + 3 + 2)) := hGH
    have y1 : (H.sD 611 11 v1).D 611 10 = y := by rw [rdf (by decide)]; exact hHy
    have y2 : ((H.sD 611 11 v1).sD 611 11 (v1 + 3)).D 611 10 = y := by rw [rdf (by decide)]; exact y1
    have y3 : (((H.sD 611 11 v1).sD 611 11 (v1 + 3)).sD 611 11 (v1 + 3 + 2)).D 611 10 = y := by rw [rdf (by decide)]; exact y2
    refine ⟨((H.sD 611 11 v1).sD 611 11 (v1 + 3)).sD 611 11 (v1 + 3 + 2), ?_, same.sD (same.sD (same.sD hs ⟨rfl, by omega⟩) ⟨rfl, by omega⟩) ⟨rfl, by omega⟩, y3⟩
    rw [ck_t (rS_611 hGH), bnd_t, ck_t (rS_611 g1), bnd_t, y1, if_neg ny, ck_t (rS_611 g1), bnd_t, rds, bnd_t, bnd_t, y2, if_neg ny, ck_t (rS_611 g2), bnd_t, rds, bnd_t, bnd_t, y3, if_neg ny0, ck_t (rS_611 g3), bC_t (ev_cmf g3 (by rw [y3]; exact hy)), if_neg (by decide)]
  unfold B_MRunner_emits_151
  rw [ck_t (rS_611 hG), bnd_t, rf_t h.2.2.2.1, ck_t t0, rf_t (TP_23 hT), ar_t (TA_23 hT), rdI he (by decide)]
  by_cases q : B.D (w + 16) e = 0
  · rw [if_pos q]
    exact fin B 3 hG h10 same.rf
  · rw [if_neg q]
    exact fin B 2 hG h10 same.rf
/-- one value -/
theorem em_it {B B2 : Hp} {g n e i : Nat} {l2 l3 l4 l5 v dr x : Int32} (hF : (FIX N p wo w u K0 M E)) (h : SB B w u ir M ty mn nu E Q V nL lc hd) (hs : BS B i 0 dr) (he : e < E 9 0) (hn : n < E 10 e) (ev : (X_RunE N 50).1 611 B = some (v, B2)) (hG2 : Gr B2) (h11 : B2.D 611 11 = x) : B_MRunner_emits_36 N 611 (g + 1) (nI e) l2 l3 l4 l5 (nI n) B = B_MRunner_emits_36 N 611 g (nI e) (if n = 0 then (if E 12 (4 * e + n) = 1 then byt v else v) else l2) (if n = 1 then (if E 12 (4 * e + n) = 1 then byt v else v) else l3) (if n = 2 then (if E 12 (4 * e + n) = 1 then byt v else v) else l4) (if n = 3 then (if E 12 (4 * e + n) = 1 then byt v else v) else l5) (nI (n + 1)) (B2.sD 611 11 (x + 1)) := by
  have hr := h.1.1
  obtain ⟨t0, -⟩ := hr.T
  have hT := hr.2.1
  have w6 := hF.1.2.2.2.2.2.1
  have w8 := (hF.1.2.2.2.2.2.2.2.1 e he).1
  have w9 := hF.1.2.2.2.2.2.2.2.2.1 e n he hn
  rw [B_MRunner_emits_36, ck_t (rS_611 hr.1), rf_t hr.2.2.2.1, ck_t t0, rf_t (TP_23 hT), ar_t (TA_23 hT), rdI (show e < 8 by omega) (by decide), TXBk h he, if_neg (nI_ge hn (by omega)), bnd_t, hs.2.1, if_pos rfl, rf_t hr.2.2.2.1, ck_t t0, rf_t (TP_24 hT), ar_t (TA_24 hT), show (4 : Int32) * nI e + nI n = nI (4 * e + n) from nI_ma 4 e n, rdI (show 4 * e + n < 32 by omega) (by decide), h.2.2.2.2.2 e n he hn, bC_t ev, bC_t (ev_gvn (by omega)), bnd_t, h11, bnd_t]
  unfold B_MRunner_emits_101 B_MRunner_emits_114 B_MRunner_emits_128 B_MRunner_emits_143
  have hc : n = 0 ∨ n = 1 ∨ n = 2 ∨ n = 3 := by omega
  rcases hc with rfl | rfl | rfl | rfl
  · rw [if_pos (show nI 0 = (0 : Int32) from rfl), if_neg (show ¬ nI 0 = (1 : Int32) by decide), if_neg (show ¬ nI 0 = (2 : Int32) by decide), if_neg (show ¬ nI 0 = (3 : Int32) by decide)]
    rfl
  · rw [if_neg (show ¬ nI 1 = (0 : Int32) by decide), if_pos (show nI 1 = (1 : Int32) from rfl), if_neg (show ¬ nI 1 = (2 : Int32) by decide), if_neg (show ¬ nI 1 = (3 : Int32) by decide)]
    rfl
  · rw [if_neg (show ¬ nI 2 = (0 : Int32) by decide), if_neg (show ¬ nI 2 = (1 : Int32) by decide), if_pos (show nI 2 = (2 : Int32) from rfl), if_neg (show ¬ nI 2 = (3 : Int32) by decide)]
    rfl
  · rw [if_neg (show ¬ nI 3 = (0 : Int32) by decide), if_neg (show ¬ nI 3 = (1 : Int32) by decide), if_neg (show ¬ nI 3 = (2 : Int32) by decide), if_pos (show nI 3 = (3 : Int32) from rfl)]
    rfl
/-- the loop's end -/
theorem em_stop {B : Hp} {g e n : Nat} {l2 l3 l4 l5 : Int32} (hF : (FIX N p wo w u K0 M E)) (h : RB B w u ir M ty mn nu) (h16 : B.D (w + 16) e = nI (E 10 e)) (he : e < E 9 0) (hn : n ≤ 4) (hs : E 10 e ≤ n ∨ ¬ B.D 611 10 = 0) : B_MRunner_emits_36 N 611 (g + 1) (nI e) l2 l3 l4 l5 (nI n) B = B_MRunner_emits_151 N 611 (nI e) l2 l3 l4 l5 B := by
  obtain ⟨t0, -⟩ := h.T
  have hT := h.2.1
  have w6 := hF.1.2.2.2.2.2.1
  have w8 := (hF.1.2.2.2.2.2.2.2.1 e he).1
  rw [B_MRunner_emits_36, ck_t (rS_611 h.1), rf_t h.2.2.2.1, ck_t t0, rf_t (TP_23 hT), ar_t (TA_23 hT), rdI (show e < 8 by omega) (by decide), h16]
  by_cases q : E 10 e ≤ n
  · rw [if_pos (nI_le q (by omega))]
  · rw [if_neg (nI_ge (by omega) (by omega)), bnd_t, if_neg (hs.resolve_left q)]
theorem s_ar0 {i a e : Nat} : SP4 N s pl p wo inp cs w u ir M ty mn nu cd E K0 nL lc hd i i a a 0 e := by
  refine ⟨Nat.le_refl _, Nat.le_refl _, fun _ => ⟨rfl, rfl⟩, fun Q V A la z B mk st dr hI _ _ _ _ => .inl ⟨A, B, dr, fun _ => 0, ⟨0, by omega, by omega, VR.rf, exS.rf hI.2.2.2.2.1, same.rf, fun _ _ _ => rfl⟩, hI, fun k hk => by omega, ⟨fun k _ => rfl, fun k hk => by omega⟩, fun g => rfl⟩⟩
theorem s_arn {dp i m j a b b2 n e k : Nat} (hF : (FIX N p wo w u K0 M E)) (hlk : ∀ n, n < nL → lk n = 4 → hd (100 + n) = 1004) (hk4 : E 12 (4 * e + n) = 4 → k = 4) (h : SP4 N s pl p wo inp cs w u ir M ty mn nu cd E K0 nL lc hd i m a b n e) (hD : DE ty mn nu cd E nL lc lk hd 0 dp (if n = 0 then m else m + 1) j b b2 k) (h43 : E 12 (4 * e + n) = 1 → cd b2 = 43) (hij : m < j) (hab : b < b2) : SP4 N s pl p wo inp cs w u ir M ty mn nu cd E K0 nL lc hd i j a (b2 + hld (E 12 (4 * e + n))) (n + 1) e := by
  obtain ⟨p1, p2, p3, go⟩ := h
  refine ⟨by omega, by omega, fun y => by omega, fun Q V A la z B mk st dr hI he hn k4 k5 => ?_⟩
  have w6 := hF.1.2.2.2.2.2.1
  have w8 := (hF.1.2.2.2.2.2.2.2.1 e he).1
  rcases go Q V A la z B mk st dr hI he (by omega) (by omega) (by omega) with ⟨A2, B2, dr2, vs, q1, q2, q3, q4, q5⟩ | q5
  · rcases s_val (N := N) (s := s) (pl := pl) hF hD q2 (by omega) (by omega) (by omega) with ⟨n3, A3, B3, v, dr3, g1, g2, g3, g4, g5, g6, g7⟩ | ⟨n3, A3, B3, v, y, j', g1, g2, g3, g4, g5, g6, g7, g8, g9, g10⟩
    · obtain ⟨n4, A4, s1, s2, s3, s4, s5⟩ := s_hold (N := N) (s := s) (pl := pl) (k := E 12 (4 * e + n)) hF g7 (by omega) g4 h43 (by omega)
      refine .inl ⟨A4, atB B3 (j + 1), dr3, fun k => if k = n then (if E 12 (4 * e + n) = 1 then byt v else v) else vs k, ((q1.tr (PRE.ex q2.2.2.2.2 g1 g2 g3 g6)).tr (PRE.ex g7.2.2.2.2 s1 s2 s3 same.rf)).tr (PRE.at s5.2.2.2.2), by rw [if_neg (show ¬ n + 1 = 0 by omega)]; exact s5.to hF, fun k hk => ?_, ⟨fun k hk => ?_, fun k hk y => ?_⟩, fun g => ?_⟩
      · dsimp only
        by_cases q : k = n
        · rw [if_pos q, q]; exact s4
        · rw [if_neg q, s3.1 119 k (by unfold EXA; omega), g3.1 119 k (by unfold EXA; omega)]
          exact q3 k (by omega)
      · dsimp only
        rw [if_neg (show ¬ k = n by omega)]
        exact q4.1 k (by omega)
      · dsimp only
        by_cases q : k = n
        · subst q
          rw [if_pos rfl, if_neg (by omega)]
          exact v4_ok hF.1 hF.2.1 q2.1.2.2.2 hlk hD (hk4 y) q2.2.1.1 q2.2.2.2.1 (by omega) g5 g7.2.2.2.1.2.1
        · rw [if_neg q]
          exact q4.2 k (by omega) y
      · have e1 := q5 (g + 1)
        rw [em_it hF q2.2.1 q2.2.2.2.1 he (show n < E 10 e by omega) g5 g7.2.1.1.1.1 g7.2.2.2.1.1, nI_1] at e1
        rw [show g + (n + 1) = g + 1 + n by omega, e1]
        have hc : n = 0 ∨ n = 1 ∨ n = 2 ∨ n = 3 := by omega
        rcases hc with rfl | rfl | rfl | rfl <;> rfl
    · refine .inr (fun g => ?_)
      have e1 := q5 (g + 1 + 1)
      have g11 : RB (B3.sD 611 11 (nI j' + 1)) w u ir M ty mn nu := g10.ex (same.sD same.rf ⟨rfl, by omega⟩)
      have y10 : (B3.sD 611 11 (nI j' + 1)).D 611 10 = y := by rw [rdf (by decide)]; exact g7
      have h16 : (B3.sD 611 11 (nI j' + 1)).D (w + 16) e = nI (E 10 e) := by
        have hw := lT_le hF.2.2.2.2.2.1
        rw [rdw (by omega), g6.1 (w + 16) e (fun y => by have := y.1; omega)]
        exact TXBk q2.2.1 he
      rw [em_it hF q2.2.1 q2.2.2.2.1 he (show n < E 10 e by omega) g5 g10.1 g8, em_stop hF g11 h16 he (by omega) (.inr (by rw [y10]; exact fun z => by rw [z] at g4; exact absurd g4 (by decide)))] at e1
      obtain ⟨B5, x1, x2, x3⟩ := em_f (N := N) (e := e) (l2 := if n = 0 then (if E 12 (4 * e + n) = 1 then byt v else v) else vs 0) (l3 := if n = 1 then (if E 12 (4 * e + n) = 1 then byt v else v) else vs 1) (l4 := if n = 2 then (if E 12 (4 * e + n) = 1 then byt v else v) else vs 2) (l5 := if n = 3 then (if E 12 (4 * e + n) = 1 then byt v else v) else vs 3) g11 (by omega) y10 g4
      rw [show g + 1 + 1 + n = g + (n + 1) + 1 by omega] at e1
      exact SFL.pre q1 (SFL.ex q2.2.2.2.2 (by omega) g2 g3 g4 g6 (e1.trans x1) ((same.sD same.rf (.inl ⟨rfl, by omega⟩)).tr (x2.mono FRB.eb)) (fun x => by rw [x2.1 612 x (fun y => absurd y.1 (by decide)), rdw (by decide)]) x3)
  · refine .inr (fun g => ?_)
    have t := q5 (g + 1)
    rw [show g + 1 + n + 1 = g + (n + 1) + 1 by omega] at t
    exact t.then (by omega) (fun B2 y1 y2 y3 => ⟨B2, y1, same.rf, y3⟩)
end Par
