/-! ===== an own member takes a value ===== -/
section Par
variable {N p wo inp cs w u ir M K0 : Nat} {s pl : Int32} {ty mn nu cd : Nat → Int32} {E Q : Nat → Nat → Nat} {V : Nat → Nat → Int32} {nL lc : Nat} {lk : Nat → Nat} {hd : Nat → Int32}
theorem SB.fr2 {B B2 : Hp} {R : Nat → Nat → Prop} {V2 : Nat → Nat → Int32} {n2 : Nat} (h : SB B w u ir M ty mn nu E Q V nL lc hd) (hw : w ∈ lT) (hu : u ∈ lU) (hs : same R B B2) (hR : ∀ a f, R a f → a = 611 ∧ f ≠ 5 ∧ f ≠ 6 ∨ a = 612 ∨ a = 613 ∨ a = 614) (hn : n2 ≤ 12) (hV : ∀ x, x ≠ 5 → x ≠ 6 → V2 x = V x) (k5 : ∀ c m, mOf E c m → E 18 (E 17 0 - 1) / 2 ^ c % 2 = 1 → B2.D 613 m = V2 5 m) (k6 : ∀ n, n < n2 → B2.D 614 n = V2 6 n) : SB B2 w u ir M ty mn nu E Q V2 n2 lc hd := by
  have hw' := lT_le hw
  have hu' := lU_le hu
  obtain ⟨⟨h1, h2, h3, ⟨h4, h5, h6, h7⟩, h8, h9, h10, h11, h12⟩, ⟨a1, a2⟩, b1, b2, b3, b4⟩ := h
  have hG := h1.1
  have hi : B.sh[ir]? = some (100, 4) := h1.2.2.2.2.2.2.1
  have i6 : ir ≠ 611 ∧ ir ≠ 612 ∧ ir ≠ 614 ∧ ir ≠ 613 := by
    refine ⟨fun y => ?_, fun y => ?_, fun y => ?_, fun y => ?_⟩
    · rw [y, rS_611 hG] at hi; exact absurd (congrArg Prod.fst (Option.some.inj hi)) (by decide)
    · rw [y, rA_611_3 hG] at hi; exact absurd (congrArg Prod.snd (Option.some.inj hi)) (by decide)
    · rw [y, rA_611_14 hG] at hi; exact absurd (congrArg Prod.snd (Option.some.inj hi)) (by decide)
    · rw [y, rA_611_13 hG] at hi; exact absurd (congrArg Prod.snd (Option.some.inj hi)) (by decide)
  have f : ∀ a x, (w ≤ a ∧ a ≤ w + 30) ∨ (u ≤ a ∧ a ≤ u + 9) ∨ a = ir ∨ (a = 611 ∧ (x = 5 ∨ x = 6)) ∨ a = 615 → B2.D a x = B.D a x := fun a x k => hs.1 a x (fun y => by have := hR a x y; omega)
  refine ⟨⟨h1.sm hs (fun i => ⟨fun y => by have := hR _ _ y; omega, fun y => by have := hR _ _ y; omega, fun y => by have := hR _ _ y; omega⟩), fun q hq => by rw [f _ _ (by omega), f _ _ (by omega), f _ _ (by omega)]; exact h2 q hq, hn, ⟨by rw [f _ _ (by omega), hV 9 (by decide) (by decide)]; exact h4, by rw [f _ _ (by omega), hV 2 (by decide) (by decide)]; exact h5, by rw [f _ _ (by omega), hV 0 (by decide) (by decide)]; exact h6, by rw [f _ _ (by omega), hV 1 (by decide) (by decide)]; exact h7⟩, fun x k => by rw [f _ _ (by omega), hV 7 (by decide) (by decide)]; exact h8 x k, k5, fun q c m y1 y2 y3 y4 y5 => by rw [f _ _ (by omega), hV (100 + q) (by omega) (by omega)]; exact h10 q c m y1 y2 y3 y4 y5, k6, fun e l k1 k2 => ?_⟩, ⟨by rw [f _ _ (by omega)]; exact a1, fun k hk => ?_⟩, fun c k => by rw [f _ _ (by omega)]; exact b1 c k, fun m k => by rw [f _ _ (by omega)]; exact b2 m k, fun e k => by rw [f _ _ (by omega)]; exact b3 e k, fun e q k1 k2 => by rw [f _ _ (by omega)]; exact b4 e q k1 k2⟩
  · obtain ⟨m1, m2, m3⟩ := h12 e l k1 k2
    exact ⟨by rw [f _ _ (by omega)]; exact m1, m2, fun q k => by rw [f _ _ (by omega), hV (400 + Q 3 l) (by omega) (by omega)]; exact m3 q k⟩
  · obtain ⟨m0, m1, m2, m3⟩ := a2 k hk
    rw [hV 20 (by decide) (by decide), hV 21 (by decide) (by decide), hV 22 (by decide) (by decide), hV (400 + k) (by omega) (by omega)]
    exact ⟨by rw [f _ _ (by omega)]; exact m0, by rw [f _ _ (by omega)]; exact m1, by rw [f _ _ (by omega)]; exact m2, fun e q y1 y2 y3 => by rw [f _ _ (by omega)]; exact m3 e q y1 y2 y3⟩
/-- a value is held to its kind -/
theorem s_hold {j b k h mk st la z : Nat} {v dr : Int32} {A B : Hp} (hF : (FIX N p wo w u K0 M E)) (hI : (SIN p wo inp cs w u ir M ty mn nu cd E Q V nL lc hd K0 j b (h + 1) A la z B mk st dr)) (hh : h < 160) (hv : A.D 119 h = v) (hc : k = 1 → cd b = 43) (hb : b + hld k ≤ cs) : ∃ n A2, n + b ≤ b + hld k ∧ VR N s pl n A A2 ∧ same (EXA h) A A2 ∧ A2.D 119 h = (if k = 1 then byt v else v) ∧ (SIN p wo inp cs w u ir M ty mn nu cd E Q V nL lc hd K0 j (b + hld k) (h + 1) A2 la z B mk st dr) := by
  by_cases q : k = 1
  · subst q
    have hld1 : hld 1 = 1 := rfl
    obtain ⟨f1, f2, f3, f4, f5, f6, f7, f8⟩ := hF
    obtain ⟨i1, i2, i3, i4, i5⟩ := hI
    obtain ⟨A2, r1, r2, r3, r4, r5⟩ := op_43 (N := N) (s := s) (pl := pl) i1.1.1 i3 (by omega) i1.1.2.1 hh ((i1.1.at_cd (by omega)).trans (hc rfl))
    rw [hv] at r4
    refine ⟨1, A2, by omega, r1, r2, by rw [if_pos rfl]; exact r4, i1.of f1 f4 f5 i5.1 (r2.exS i5.1) (fun a f y => by unfold EXA at y; omega), i2, r3, i4, i5.ex r2 (same.rf) (r5.trans i5.2.2.2.2.2.2.2.1)⟩
  · have hld0 : hld k = 0 := if_neg q
    rw [hld0]
    exact ⟨0, A, by omega, VR.rf, same.rf, by rw [if_neg q]; exact hv, hI⟩
theorem s_seto {m c j b mk st la z : Nat} {v dr : Int32} {A B : Hp} (hF : (FIX N p wo w u K0 M E)) (hW : WRE E) (hI : (SIN p wo inp cs w u ir M ty mn nu cd E Q V nL lc hd K0 j b 1 A la z B mk st dr)) (hv : A.D 119 0 = v) (hm : mOf E c m) (hc20 : E 20 (E 17 0 - 1) / 2 ^ c % 2 = 1) (hv4 : E 6 m = 4 → SV E v) (hc : cd b = 36) (hc1 : cd (b + 1) = nI m) (hb : b + 1 < cs) : ∃ A3 V2, (PRE N s pl wo (Q 4 0 * Q 5 0) E lc V V2 b (b + 2) A la z A3 la z B (atB (B.sD 613 m v) (j + 1)) st st) ∧ (SIN p wo inp cs w u ir M ty mn nu cd E Q V2 nL lc hd K0 (j + 1) (b + 2) 0 A3 la z (atB (B.sD 613 m v) (j + 1)) mk st dr) := by
  obtain ⟨f1, f2, f3, f4, f5, f6, f7, f8⟩ := hF
  obtain ⟨i1, i2, i3, i4, i5⟩ := hI
  have m48 := (mOf_lt f1 hm).2.1
  have hwo := lW_le f5
  have hwd := i1.2.1.2.2.1
  obtain ⟨A3, r1, r2, r3, r4⟩ := op_36 (N := N) (s := s) (pl := pl) (h := 0) i1.1.2.2.2.1.1 i1.1.2.2.2.1.2.1 i1.1.2.2.2.2.2.1.1 i1.1.2.2.2.2.2.1.2 m48 ((i1.1.at_cd (by omega)).trans hc1) i1.1.1 i3 hb i1.1.2.1 (by decide) ((i1.1.at_cd (by omega)).trans hc)
  rw [hv] at r4
  have sB : same (fun a f => (a = 611 ∧ f = 11) ∨ (a = 613 ∧ f = m)) B (atB (B.sD 613 m v) (j + 1)) := same.sD (same.sD same.rf (.inr ⟨rfl, rfl⟩)) (.inl ⟨rfl, rfl⟩)
  have hWr : Wr E m := ⟨c, hm, hc20⟩
  have eb : ∀ f, f ≠ 11 → (atB (B.sD 613 m v) (j + 1)).D 611 f = B.D 611 f := fun f y => by
    show ((B.sD 613 m v).sD 611 11 (nI (j + 1))).D 611 f = _
    rw [rdf y, rdw (by decide)]
  have eD : ∀ a f, KPA p wo inp 0 lc a f → a ≠ wo + 3 → A3.D a f = A.D a f := fun a f y1 y2 => r2.1 a f (fun y => by
    have q := i1.1.1.q
    have h7 := i1.1.1.i.1
    unfold KPA at y1
    unfold EXO at y
    omega)
  have hv3 : VS0 A3 p wo inp cs := i1.1.1.sm r2 (by unfold EXO; omega)
  have kL : LKV E Q (upV V 5 m v) nL lc hd := i1.2.2.2.vv (fun x y1 y2 => upV_o y1) (fun c2 m2 y1 y2 y3 => by
    by_cases q : m2 = m
    · subst q
      rw [upV_s]
      exact hv4 y3
    · rw [upV_n q]
      exact i1.2.2.2.2.1 c2 m2 y1 y2 y3) (fun x y z => by rw [upV_o (by decide)]; exact i1.2.2.2.2.2.1 x y z)
  refine ⟨A3, upV V 5 m v, ⟨1, by omega, by omega, r1, (r2.mono (fun a f y => ?_)).exS i5.1, sB.mono (fun a f y => ?_), fun x y1 y2 => upV_o y1⟩, i1.fr2 hv3 eD (fun x y1 y2 => upV_o y1) (fun c2 m2 y1 y2 => ?_) (fun q c2 m2 y1 y2 y3 y4 y5 => ?_) (fun x y => ?_) kL, ?_, r3, ⟨rds, by rw [eb 10 (by decide)]; exact i4.2.1, by rw [eb 12 (by decide)]; exact i4.2.2.1, by rw [eb 9 (by decide)]; exact i4.2.2.2⟩, ?_⟩
  · unfold EXO at y
    unfold FRA
    rcases y with y | y
    · exact .inl ⟨y.1, by omega⟩
    · exact .inr (.inr (.inr (.inr (.inr (.inr ⟨y.1, m, hWr, y.2⟩)))))
  · rcases y with y | y
    · exact .inl ⟨y.1, by omega⟩
    · exact .inr (.inr (.inl ⟨y.1, by rw [y.2]; exact hWr⟩))
  · by_cases q : m2 = m
    · subst q
      rw [r4, upV_s]
    · rw [r2.1 (wo + 3) _ (by unfold EXO; omega), upV_n q]
      exact i1.1.2.2.2.2.2.2.1 c2 m2 y1 y2
  · have ne : q * Q 5 0 + m2 ≠ Q 4 0 * Q 5 0 + m := fun z => by
      obtain ⟨e1, e2⟩ := ix_inj z (hwd c m hm) (hwd c2 m2 y4)
      subst e2
      have := mOf_u f1 y4 hm
      subst this
      exact (hW c2 hc20).2 y5
    rw [r2.1 (wo + 3) _ (by unfold EXO; omega)]
    exact i1.1.2.2.2.2.2.2.2.1 q c2 m2 y1 y2 y3 y4 y5
  · rw [r2.1 120 x (by unfold EXO; omega), upV_o (by decide)]
    exact i1.1.2.2.2.2.2.2.2.2.1 x y
  · refine i2.fr2 f6 f7 sB (fun a f y => by omega) i2.1.2.2.1 (fun x y1 y2 => upV_o y1) (fun c2 m2 y1 y2 => ?_) (fun x y => ?_)
    · by_cases q : m2 = m
      · subst q
        rw [upV_s]
        show ((B.sD 613 m2 v).sD 611 11 (nI (j + 1))).D 613 m2 = _
        rw [rdw (by decide), rds]
      · rw [sB.1 613 m2 (by omega), upV_n q]
        exact i2.1.2.2.2.2.2.1 c2 m2 y1 y2
    · rw [sB.1 614 x (by omega), upV_o (by decide)]
      exact i2.1.2.2.2.2.2.2.2.1 x y
  · rw [upV_o (by decide)]
    exact i5.fr r2 sB (fun a f y => by unfold EXO at y; omega) (fun a f y => by omega)
theorem s_sto {dp i j a b c m k : Nat} (hF : (FIX N p wo w u K0 M E)) (hlk : ∀ n, n < nL → lk n = 4 → hd (100 + n) = 1004) (hk4 : E 6 m = 4 → k = 4) (hW : WRE E) (h0 : ty i = 1) (h1 : ty (i + 1) = 46) (h2 : mn (i + 2) = nI m) (hm : mOf E c m) (hc20 : E 20 (E 17 0 - 1) / 2 ^ c % 2 = 1) (hD : DE ty mn nu cd E nL lc lk hd 0 dp (i + 4) j a b k) (h43 : E 6 m = 1 → cd b = 43) (hc : cd (b + hld (E 6 m)) = 36) (hc1 : cd (b + hld (E 6 m) + 1) = nI m) (hij : i + 4 < j) (hab : a < b) : (SP0 N s pl p wo inp cs w u ir M ty mn nu cd E K0 nL lc hd dp i (j + 1) a (b + hld (E 6 m) + 2) nL hd) := by
  refine ⟨by omega, by omega, by omega, fun d Q V A la z B mk st dr hI k1 k2 k3 k4 k5 => ?_⟩
  obtain ⟨mE, m48, c16⟩ := mOf_lt hF.1 hm
  have kind := hF.1.2.2.2.2.1 m mE
  have hB1 := (hI.to (j := i + 1) hF)
  have hB3 := (hB1.to (j := i + 4) hF)
  have hr1 := hB1.2.1.1.1
  obtain ⟨t0, t1, t2, t3, t4, t5, t6⟩ := hr1.T
  have hM := hr1.2.2.2.2.2.2.2.1
  have e : ∀ v B2, (X_RunE N 50).1 611 (atB (atB B (i + 1)) (i + 4)) = some (v, B2) → dsp N (X_RunS N d) B = (bnd (B2.D 611 10) fun x26 => if x26 = (0 : Int32) then rf (B2.P 611 13) fun a34 => rf (B2.P 611 0) fun a36 => ck (B2.sh[a36]? = some (14, 0)) <| rf (B2.P a36 19) fun a39 => ar B2 100 a39 fun n41 => ck (inb (nI m) n41) <| bnd ((B2.D a39 (nI m).toNatClampNeg)) fun x44 => bC (F_MRunner_given N x44 v B2) fun v46 H47 => ar H47 100 a34 fun n48 => ck (inb (nI m) n48) <| bnd (H47.sD a34 (nI m).toNatClampNeg v46) fun H51 => B_MRunner_assigns_100 N 611 (nI i) H51 else B_MRunner_assigns_100 N 611 (nI i) B2) := by
    intro v B2 e1
    rw [dsp_h hI.2.1.1.1 (by omega) hI.2.2.2.1.1, h0, dsq_1]
    unfold F_MRunner_assigns
    rw [ck_t (rS_611 hr1.1), rf_t hr1.2.2.2.1, ck_t t0, rf_t t1, ar_t t2, nI_1, rdI (show i + 1 < 6002 by omega) (by decide), (hr1.2.2.2.2.2.2.2.2 (i + 1) (by omega)).1, h1, if_neg (by decide), rf_t hr1.2.2.2.1, ck_t t0, rf_t t5, ar_t t6, show nI i + (2 : Int32) = nI (i + 2) from nI_ad i 2, rdI (show i + 2 < 6002 by omega) (by decide), (hr1.2.2.2.2.2.2.2.2 (i + 2) (by omega)).2.1, h2, bnd_t, hB1.2.2.2.1.1, show nI (i + 1) + 3 = nI (i + 4) from nI_ad (i + 1) 3, bnd_t, show (atB B (i + 1)).sD 611 11 (nI (i + 4)) = atB (atB B (i + 1)) (i + 4) from rfl, bC_t e1]
  have fin : ∀ H x, Gr H → H.D 611 11 = x → B_MRunner_assigns_100 N 611 (nI i) H = some ((), H.sD 611 11 (x + 1)) := by
    intro H x hG hx
    unfold B_MRunner_assigns_100
    rw [ck_t (rS_611 hG), bnd_t, hx, bnd_t]
  rcases s_val (N := N) (s := s) (pl := pl) hF hD hB3 (by omega) (by omega) (by omega) with ⟨n, A2, B2, v, dr2, g1, g2, g3, g4, g5, g6, g7⟩ | ⟨n, A2, B2, v, y, j', g1, g2, g3, g4, g5, g6, g7, g8, g9, g10⟩
  · obtain ⟨n3, A3, r1, r2, r3, r4, r5⟩ := s_hold (N := N) (s := s) (pl := pl) (k := E 6 m) hF g7 (by decide) g4 h43 (by omega)
    obtain ⟨A4, V2, q1, q2⟩ := s_seto (N := N) (s := s) (pl := pl) hF hW r5 r4 hm hc20 (fun y => by rw [if_neg (by omega)]; exact v4_ok hF.1 hF.2.1 hB3.1.2.2.2 hlk hD (hk4 y) hB3.2.1.1 hB3.2.2.2.1 (by omega) g5 g7.2.2.2.1.2.1) hc hc1 (by omega)
    have hr2 := g7.2.1.1.1
    obtain ⟨u0, u1, u2, u3, u4, u5, u6⟩ := hr2.T
    have hT := hr2.2.1
    have e1 := e v B2 g5
    have hG3 : Gr (B2.sD 613 m (if E 6 m = 1 then byt v else v)) := hr2.1
    rw [bnd_t, g7.2.2.2.1.2.1, if_pos rfl, rf_t (rP_611_13 hr2.1), rf_t hr2.2.2.2.1, ck_t u0, rf_t (TP_19 hT), ar_t (TA_19 hT), rdI m48 (by decide), g7.2.1.2.2.2.1 m mE, bC_t (ev_gvn (by omega)), ar_t (rA_611_13 hr2.1), wrI m48 (by decide), fin _ (nI j) hG3 (by rw [rdw (by decide)]; exact g7.2.2.2.1.1), nI_1] at e1
    exact .inl ⟨A4, la, z, _, V2, st, mk, dr2, ((((PRE.at hI.2.2.2.2).tr (PRE.at hB1.2.2.2.2)).tr (PRE.ex hB3.2.2.2.2 g1 g2 g3 g6)).tr (PRE.ex g7.2.2.2.2 r1 r2 r3 same.rf)).tr q1, e1, q2⟩
  · have e1 := e v B2 g5
    rw [bnd_t, g7, if_neg (fun z => by rw [z] at g4; exact absurd g4 (by decide)), fin _ (nI j') g10.1 g8] at e1
    exact .inr (SFL.pre ((PRE.at hI.2.2.2.2).tr (PRE.at hB1.2.2.2.2)) (SFL.ex hB3.2.2.2.2 (by omega) g2 g3 g4 g6 e1 (same.sD same.rf (.inl ⟨rfl, by omega⟩)) (fun x => by rw [rdw (by decide)]) (by rw [rdf (by decide)]; exact g7)))
end Par
