/-! ===== spawn: the statement ===== -/
/-- parts of a spawn -/
def SP3 (N : Nat) (s pl : Int32) (p wo inp cs w u ir M : Nat) (ty mn nu cd : Nat → Int32) (E : Nat → Nat → Nat) (K0 : Nat) (nL lc : Nat) (hd : Nat → Int32) (dp i j a b n : Nat) (of : Nat → Nat) : Prop :=
  1 ≤ n ∧ n ≤ 4 ∧ i < j ∧ a < b ∧ (∀ k, k < n → ∃ c, mOf E c (of k) ∧ E 16 (of 9) / 2 ^ c % 2 = 1) ∧ ∀ Q V A la z B mk st dr f t0, i = t0 + 1 → (SIN p wo inp cs w u ir M ty mn nu cd E Q V nL lc hd K0 t0 a 0 A la z B mk st dr) → j < M → b ≤ cs →
    (∃ (A2 B2 : Hp) (dr2 : Int32) (vs : Nat → Int32), (PRE N s pl wo (Q 4 0 * Q 5 0) E lc V V a b A la z A2 la z B B2 st st) ∧ (SIN p wo inp cs w u ir M ty mn nu cd E Q V nL lc hd K0 j b n A2 la z B2 mk st dr2) ∧ (∀ k, k < n → A2.D 119 k = vs k) ∧ ((∀ k, n ≤ k → vs k = 0) ∧ ∀ k, k < n → E 6 (of k) = 4 → SV E (vs k)) ∧ ∀ g, B_MRunner_spawns_63 N 611 (g + n) f 0 0 0 0 0 0 1 B = B_MRunner_spawns_183 N 611 (fun l1 l2 l3 l4 l5 l6 l7 l8 H => B_MRunner_spawns_63 N 611 g l1 l2 l3 l4 l5 l6 l7 l8 H) f (nI (n - 1)) (vs 0) (vs 1) (vs 2) (nI (Wm of n)) (vs 3) B2) ∨
    (∀ g, (SFL N s pl wo (Q 4 0 * Q 5 0) E (V 0 0) lc K0 (B_MRunner_spawns_63 N 611 (g + n + 1) f 0 0 0 0 0 0 1 B) a b A la z B st))
section Par
variable {N p wo inp cs w u ir M K0 : Nat} {s pl : Int32} {ty mn nu cd : Nat → Int32} {E Q : Nat → Nat → Nat} {V : Nat → Nat → Int32} {nL lc : Nat} {lk : Nat → Nat} {hd : Nat → Int32}
theorem c234 {B : Hp} {x mk : Nat} {l1 l2 l3 l4 l5 l6 l7 : Int32} (hG : Gr B) (h11 : B.D 611 11 = nI x) (h10 : B.D 611 10 = 0) (h4 : B.D 611 4 = nI (K0 + mk)) (h7 : B.D 611 7 = nI K0) (hK : K0 + 8 ≤ 32768) :
    (mk < 8 → ∃ B3, B_MRunner_spawns_234 N 611 l1 l2 l3 l4 l5 l6 l7 B = some ((), B3) ∧ same (EXK (12 * (K0 + mk))) B B3 ∧ B3.D 611 4 = nI (K0 + mk + 1) ∧ B3.D 611 11 = nI (x + 1) ∧ B3.D 612 (12 * (K0 + mk)) = 222 ∧ B3.D 612 (12 * (K0 + mk) + 1) = l1 ∧ B3.D 612 (12 * (K0 + mk) + 2) = l2 ∧ B3.D 612 (12 * (K0 + mk) + 3) = l7 ∧ B3.D 612 (12 * (K0 + mk) + 4) = l3 ∧ B3.D 612 (12 * (K0 + mk) + 5) = l4 ∧ B3.D 612 (12 * (K0 + mk) + 6) = l5 ∧ B3.D 612 (12 * (K0 + mk) + 7) = l6) ∧
    (mk = 8 → ∃ B4, B_MRunner_spawns_234 N 611 l1 l2 l3 l4 l5 l6 l7 B = some ((), B4) ∧ same (fun a f => a = 611 ∧ (f = 10 ∨ f = 11)) B B4 ∧ B4.D 611 10 = 6) := by
  have hG1 : Gr (atB B (x + 1)) := hG
  have k10 : (atB B (x + 1)).D 611 10 = 0 := by rw [show (atB B (x + 1)).D 611 10 = B.D 611 10 from rdf (by decide)]; exact h10
  have k4 : (atB B (x + 1)).D 611 4 = nI (K0 + mk) := by rw [show (atB B (x + 1)).D 611 4 = B.D 611 4 from rdf (by decide)]; exact h4
  have k7 : (atB B (x + 1)).D 611 7 = nI K0 := by rw [show (atB B (x + 1)).D 611 7 = B.D 611 7 from rdf (by decide)]; exact h7
  have e0 : B_MRunner_spawns_234 N 611 l1 l2 l3 l4 l5 l6 l7 B = B_MRunner_spawns_234 N 611 l1 l2 l3 l4 l5 l6 l7 B := rfl
  constructor
  · intro q
    generalize hH : ((atB B (x + 1)).sD 611 4 (nI (K0 + mk + 1))).sD 612 (12 * (K0 + mk)) 222 = H
    have ec := ev_cmd (N := N) (t := 222) hG1 k10 k4 k7 hK q
    rw [hH] at ec
    have hGH : Gr H := by rw [← hH]; exact hG
    have hsH : same (EXK (12 * (K0 + mk))) B H := by
      rw [← hH]
      exact same.sD (same.sD (same.sD same.rf (.inl ⟨rfl, by omega⟩)) (.inl ⟨rfl, by omega⟩)) (.inr ⟨rfl, by omega⟩)
    have h4H : H.D 611 4 = nI (K0 + mk + 1) := by rw [← hH, rdw (by decide), rds]
    have h11H : H.D 611 11 = nI (x + 1) := by rw [← hH, rdw (by decide), rdf (by decide)]; exact rds
    have h0H : H.D 612 (12 * (K0 + mk)) = 222 := by rw [← hH, rds]
    generalize hk : 12 * (K0 + mk) = k at *
    have g1 : Gr ((H).sD 612 (k + 1) l1) := hGH
    have g2 : Gr (((H).sD 612 (k + 1) l1).sD 612 (k + 2) l2) := hGH
    have g3 : Gr ((((H).sD 612 (k + 1) l1).sD 612 (k + 2) l2).sD 612 (k + 3) l7) := hGH
    have g4 : Gr (((((H).sD 612 (k + 1) l1).sD 612 (k + 2) l2).sD 612 (k + 3) l7).sD 612 (k + 4) l3) := hGH
    have g5 : Gr ((((((H).sD 612 (k + 1) l1).sD 612 (k + 2) l2).sD 612 (k + 3) l7).sD 612 (k + 4) l3).sD 612 (k + 5) l4) := hGH
    have g6 : Gr (((((((H).sD 612 (k + 1) l1).sD 612 (k + 2) l2).sD 612 (k + 3) l7).sD 612 (k + 4) l3).sD 612 (k + 5) l4).sD 612 (k + 6) l5) := hGH
    refine ⟨(((((((H).sD 612 (k + 1) l1).sD 612 (k + 2) l2).sD 612 (k + 3) l7).sD 612 (k + 4) l3).sD 612 (k + 5) l4).sD 612 (k + 6) l5).sD 612 (k + 7) l6, ?_, same.sD (same.sD (same.sD (same.sD (same.sD (same.sD (same.sD (hsH) (.inr ⟨rfl, by omega⟩)) (.inr ⟨rfl, by omega⟩)) (.inr ⟨rfl, by omega⟩)) (.inr ⟨rfl, by omega⟩)) (.inr ⟨rfl, by omega⟩)) (.inr ⟨rfl, by omega⟩)) (.inr ⟨rfl, by omega⟩), ?_, ?_, ?_, ?_, ?_, ?_, ?_, ?_, ?_, ?_⟩
    rotate_left
    · rw [rdw (by decide), rdw (by decide), rdw (by decide), rdw (by decide), rdw (by decide), rdw (by decide), rdw (by decide)]; exact h4H
    · rw [rdw (by decide), rdw (by decide), rdw (by decide), rdw (by decide), rdw (by decide), rdw (by decide), rdw (by decide)]; exact h11H
    · rw [rdf (by omega), rdf (by omega), rdf (by omega), rdf (by omega), rdf (by omega), rdf (by omega), rdf (by omega)]; exact h0H
    · rw [rdf (by omega), rdf (by omega), rdf (by omega), rdf (by omega), rdf (by omega), rdf (by omega), rds]
    · rw [rdf (by omega), rdf (by omega), rdf (by omega), rdf (by omega), rdf (by omega), rds]
    · rw [rdf (by omega), rdf (by omega), rdf (by omega), rdf (by omega), rds]
    · rw [rdf (by omega), rdf (by omega), rdf (by omega), rds]
    · rw [rdf (by omega), rdf (by omega), rds]
    · rw [rdf (by omega), rds]
    · rw [rds]
    · unfold B_MRunner_spawns_234
      rw [ck_t (rS_611 hG), bnd_t, h11, nI_1, bnd_t, show B.sD 611 11 (nI (x + 1)) = atB B (x + 1) from rfl, bC_t ec, if_pos (show (0 : Int32) ≤ nI k from nI_le (a := 0) (by omega) (by omega)), rf_t (rP_611_3 hGH), ar_t (rA_611_3 hGH), nI_1, wrI (by omega) (by decide), rf_t (rP_611_3 g1), ar_t (rA_611_3 g1), show nI k + (2 : Int32) = nI (k + 2) from nI_ad k 2, wrI (by omega) (by decide), rf_t (rP_611_3 g2), ar_t (rA_611_3 g2), show nI k + (3 : Int32) = nI (k + 3) from nI_ad k 3, wrI (by omega) (by decide), rf_t (rP_611_3 g3), ar_t (rA_611_3 g3), show nI k + (4 : Int32) = nI (k + 4) from nI_ad k 4, wrI (by omega) (by decide), rf_t (rP_611_3 g4), ar_t (rA_611_3 g4), show nI k + (5 : Int32) = nI (k + 5) from nI_ad k 5, wrI (by omega) (by decide), rf_t (rP_611_3 g5), ar_t (rA_611_3 g5), show nI k + (6 : Int32) = nI (k + 6) from nI_ad k 6, wrI (by omega) (by decide), rf_t (rP_611_3 g6), ar_t (rA_611_3 g6), show nI k + (7 : Int32) = nI (k + 7) from nI_ad k 7, wrI (by omega) (by decide)]
  · intro q
    subst q
    refine ⟨(atB B (x + 1)).sD 611 10 6, ?_, same.sD (same.sD same.rf ⟨rfl, by omega⟩) ⟨rfl, by omega⟩, rds⟩
    unfold B_MRunner_spawns_234
    rw [ck_t (rS_611 hG), bnd_t, h11, nI_1, bnd_t, show B.sD 611 11 (nI (x + 1)) = atB B (x + 1) from rfl, bC_t (ev_cm8 hG1 k10 k4 k7), if_neg (by decide)]
theorem s_pa1 {dp i j a b c k : Nat} {of : Nat → Nat} (hF : (FIX N p wo w u K0 M E)) (hlk : ∀ n, n < nL → lk n = 4 → hd (100 + n) = 1004) (hk4 : E 6 (of 0) = 4 → k = 4) (hm : mn (i + 2) = nI (of 0)) (ho : mOf E c (of 0)) (hD : DE ty mn nu cd E nL lc lk hd 0 dp (i + 4) j a b k) (h43 : E 6 (of 0) = 1 → cd b = 43) (h16 : E 16 (of 9) / 2 ^ c % 2 = 1) (hij : i + 4 < j) (hab : a < b) : SP3 N s pl p wo inp cs w u ir M ty mn nu cd E K0 nL lc hd dp i j a (b + hld (E 6 (of 0))) 1 of := by
  obtain ⟨oE, o48, c16⟩ := mOf_lt hF.1 ho
  have kind := hF.1.2.2.2.2.1 (of 0) oE
  refine ⟨by omega, by omega, by omega, by omega, fun k hk => ⟨c, by rw [show k = 0 by omega]; exact ho, h16⟩, fun Q V A la z B mk st dr f t0 ht hI k4 k5 => ?_⟩
  subst ht
  have hB5 := hI.to (j := t0 + 5) hF
  have w1 : (0 : Int32) ||| (nI (of 0) <<< (((8 : Int32) * nI 0) &&& 31)) = nI (Wm of 1) := Wm_or (of := of) (n := 0) (by decide) (fun k hk => by rw [show k = 0 by omega]; exact o48)
  have it : ∀ v B2 g, (X_RunE N 50).1 611 (atB B (t0 + 5)) = some (v, B2) → RB B2 w u ir M ty mn nu → B_MRunner_spawns_63 N 611 (g + 1) f 0 0 0 0 0 0 1 B = B_MRunner_spawns_183 N 611 (fun l1 l2 l3 l4 l5 l6 l7 l8 H => B_MRunner_spawns_63 N 611 g l1 l2 l3 l4 l5 l6 l7 l8 H) f (nI 0) (if E 6 (of 0) = 1 then byt v else v) 0 0 (nI (Wm of 1)) 0 B2 := fun v B2 g e hr => by
    have := sp_it (N := N) (g := g) (n := 0) (f := f) (l3 := 0) (l4 := 0) (l5 := 0) (l6 := 0) (W := 0) hI.2.1 hI.2.2.2.1 (by omega) hm oE o48 (by omega) (by decide) e hr
    rw [w1] at this
    exact this
  rcases s_val (N := N) (s := s) (pl := pl) hF hD hB5 (by omega) (by omega) (by omega) with ⟨n, A2, B2, v, dr2, g1, g2, g3, g4, g5, g6, g7⟩ | ⟨n, A2, B2, v, y, j', g1, g2, g3, g4, g5, g6, g7, g8, g9, g10⟩
  · obtain ⟨n4, A4, s1, s2, s3, s4, s5⟩ := s_hold (N := N) (s := s) (pl := pl) (k := E 6 (of 0)) hF g7 (by decide) g4 h43 (by omega)
    refine .inl ⟨A4, B2, dr2, fun k => if k = 0 then (if E 6 (of 0) = 1 then byt v else v) else 0, ((PRE.at hI.2.2.2.2).tr (PRE.ex hB5.2.2.2.2 g1 g2 g3 g6)).tr (PRE.ex g7.2.2.2.2 s1 s2 s3 same.rf), s5, fun k hk => ?_, ⟨fun k hk => if_neg (by omega), fun k hk y => by
      have hk0 : k = 0 := by omega
      subst hk0
      dsimp only
      rw [if_pos rfl, if_neg (by omega)]
      exact v4_ok hF.1 hF.2.1 hB5.1.2.2.2 hlk hD (hk4 y) hB5.2.1.1 hB5.2.2.2.1 (by omega) g5 g7.2.2.2.1.2.1⟩, fun g => it v B2 g g5 g7.2.1.1.1⟩
    rw [show k = 0 by omega]
    exact s4
  · refine .inr (fun g => ?_)
    obtain ⟨B3, x1, x2, x3⟩ := sp_fl (N := N) (g := g) (n := 0) (f := f) (l3 := if E 6 (of 0) = 1 then byt v else v) (l4 := 0) (l5 := 0) (l6 := 0) (W := nI (Wm of 1)) g10 g8 (by omega) g7 g4
    exact SFL.pre (PRE.at hI.2.2.2.2) (SFL.ex hB5.2.2.2.2 (by omega) g2 g3 g4 g6 ((it v B2 (g + 1) g5 g10).trans x1) (x2.mono FRB.eb) (fun x => x2.1 612 x (fun y => absurd y.1 (by decide))) x3)
theorem s_pan {dp i m j a b b2 c n k : Nat} {of : Nat → Nat} (hF : (FIX N p wo w u K0 M E)) (hlk : ∀ n, n < nL → lk n = 4 → hd (100 + n) = 1004) (hk4 : E 6 (of n) = 4 → k = 4) (h : SP3 N s pl p wo inp cs w u ir M ty mn nu cd E K0 nL lc hd dp i m a b n of) (hn : n < 4) (hty : ty m = 44) (hm : mn (m + 3) = nI (of n)) (ho : mOf E c (of n)) (hD : DE ty mn nu cd E nL lc lk hd 0 dp (m + 5) j b b2 k) (h43 : E 6 (of n) = 1 → cd b2 = 43) (h16 : E 16 (of 9) / 2 ^ c % 2 = 1) (hij : m + 5 < j) (hab : b < b2) : SP3 N s pl p wo inp cs w u ir M ty mn nu cd E K0 nL lc hd dp i j a (b2 + hld (E 6 (of n))) (n + 1) of := by
  obtain ⟨p1, p2, p3, p4, p5, go⟩ := h
  obtain ⟨oE, o48, c16⟩ := mOf_lt hF.1 ho
  have kind := hF.1.2.2.2.2.1 (of n) oE
  have ofl : ∀ k, k ≤ n → of k < 48 := fun k hk => by
    by_cases q : k = n
    · rw [q]; exact o48
    · obtain ⟨c2, y, -⟩ := p5 k (by omega)
      exact (mOf_lt hF.1 y).2.1
  refine ⟨by omega, by omega, by omega, by omega, fun k hk => ?_, fun Q V A la z B mk st dr f t0 ht hI k4 k5 => ?_⟩
  · by_cases q : k = n
    · rw [q]; exact ⟨c, ho, h16⟩
    · exact p5 k (by omega)
  rcases go Q V A la z B mk st dr f t0 ht hI (by omega) (by omega) with ⟨A2, B2, dr2, vs, q1, q2, q3, q4, q5⟩ | q5
  · have hB5 := q2.to (j := m + 5) hF
    have it : ∀ v B3 g, (X_RunE N 50).1 611 (atB B2 (m + 5)) = some (v, B3) → RB B3 w u ir M ty mn nu → B_MRunner_spawns_63 N 611 (g + (n + 1)) f 0 0 0 0 0 0 1 B = B_MRunner_spawns_183 N 611 (fun l1 l2 l3 l4 l5 l6 l7 l8 H => B_MRunner_spawns_63 N 611 g l1 l2 l3 l4 l5 l6 l7 l8 H) f (nI n) (vs 0) (if n = 1 then (if E 6 (of n) = 1 then byt v else v) else vs 1) (if n = 2 then (if E 6 (of n) = 1 then byt v else v) else vs 2) (nI (Wm of (n + 1))) (if n = 3 then (if E 6 (of n) = 1 then byt v else v) else vs 3) B3 := fun v B3 g e hr => by
      have e1 := q5 (g + 1)
      rw [sp_183 q2.2.1.1.1 q2.2.2.2.1.1 (by omega), if_pos hty, show n - 1 + 1 = n by omega, sp_it q2.2.1 q2.2.2.2.1 (by omega) hm oE o48 (by omega) hn e hr, Wm_or hn ofl, if_neg (show ¬ n = 0 by omega)] at e1
      rw [show g + (n + 1) = g + 1 + n by omega]
      exact e1
    rcases s_val (N := N) (s := s) (pl := pl) hF hD hB5 (by omega) (by omega) (by omega) with ⟨n3, A3, B3, v, dr3, g1, g2, g3, g4, g5, g6, g7⟩ | ⟨n3, A3, B3, v, y, j', g1, g2, g3, g4, g5, g6, g7, g8, g9, g10⟩
    · obtain ⟨n4, A4, s1, s2, s3, s4, s5⟩ := s_hold (N := N) (s := s) (pl := pl) (k := E 6 (of n)) hF g7 (by omega) g4 h43 (by omega)
      refine .inl ⟨A4, B3, dr3, fun k => if k = n then (if E 6 (of n) = 1 then byt v else v) else vs k, ((q1.tr (PRE.at q2.2.2.2.2)).tr (PRE.ex hB5.2.2.2.2 g1 g2 g3 g6)).tr (PRE.ex g7.2.2.2.2 s1 s2 s3 same.rf), s5, fun k hk => ?_, ⟨fun k hk => ?_, fun k hk y => ?_⟩, fun g => ?_⟩
      · dsimp only
        by_cases q : k = n
        · rw [if_pos q, q]; exact s4
        · rw [if_neg q, s3.1 119 k (by unfold EXA; omega), g3.1 119 k (by unfold EXA; omega)]
          exact q3 k (by omega)
      · dsimp only
        rw [if_neg (show ¬ k = n by omega)]
        exact q4.1 k (by omega)
      · dsimp only
        by_cases q : k = n
        · subst q
          rw [if_pos rfl, if_neg (by omega)]
          exact v4_ok hF.1 hF.2.1 hB5.1.2.2.2 hlk hD (hk4 y) hB5.2.1.1 hB5.2.2.2.1 (by omega) g5 g7.2.2.2.1.2.1
        · rw [if_neg q]
          exact q4.2 k (by omega) y
      · have e1 := it v B3 g g5 g7.2.1.1.1
        rw [e1, show n + 1 - 1 = n by omega]
        have hc : n = 1 ∨ n = 2 ∨ n = 3 := by omega
        rcases hc with rfl | rfl | rfl <;> rfl
    · refine .inr (fun g => ?_)
      obtain ⟨B4, x1, x2, x3⟩ := sp_fl (N := N) (g := g) (n := n) (f := f) (l3 := vs 0) (l4 := if n = 1 then (if E 6 (of n) = 1 then byt v else v) else vs 1) (l5 := if n = 2 then (if E 6 (of n) = 1 then byt v else v) else vs 2) (l6 := if n = 3 then (if E 6 (of n) = 1 then byt v else v) else vs 3) (W := nI (Wm of (n + 1))) g10 g8 (by omega) g7 g4
      have e1 := it v B3 (g + 1) g5 g10
      rw [show g + 1 + (n + 1) = g + (n + 1) + 1 by omega] at e1
      exact SFL.pre (q1.tr (PRE.at q2.2.2.2.2)) (SFL.ex hB5.2.2.2.2 (by omega) g2 g3 g4 g6 (e1.trans x1) (x2.mono FRB.eb) (fun x => x2.1 612 x (fun y => absurd y.1 (by decide))) x3)
  · refine .inr (fun g => ?_)
    have t := q5 (g + 1)
    rw [show g + 1 + n + 1 = g + (n + 1) + 1 by omega] at t
    exact t.then (by omega) (fun B2 y1 y2 y3 => ⟨B2, y1, same.rf, y3⟩)
end Par
