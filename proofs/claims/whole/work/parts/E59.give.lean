/-! ===== give acts alike ===== -/
/-- what both texts present to acting commands -/
def ATX (A : Hp) (p : Nat) (B : Hp) (w : Nat) (E : Nat → Nat → Nat) (Pv : Nat → Nat → Int32) : Prop := (p = 133 ∨ p = 325) ∧ w ∈ lT ∧ A.P 116 1 = .ref p ∧ B.P 611 0 = .ref w ∧ (∀ c, c ≤ E 4 0 → A.D (p + 137) c = nI (E 5 c)) ∧ (∀ m, m < E 5 (E 4 0) → A.D (p + 89 + m) 3 = nI (E 6 m)) ∧ TXB B w E ∧ EA4 A p E Pv ∧ EB4 B w E Pv
section Par
variable {N p wo inp cs w u ir M K0 : Nat} {s pl : Int32} {ty mn nu cd : Nat → Int32} {E Q : Nat → Nat → Nat} {V : Nat → Nat → Int32} {nL lc : Nat} {lk : Nat → Nat} {hd : Nat → Int32}
theorem ev_giv {c q wd : Nat} (hE : WE E) (hc : c < E 4 0) (hq : q < 256) (hwd : wd ≤ 48) (hwo : wo + 5 < p) : ∀ j n i A, i + j = E 5 (c + 1) → j < n → isW A wo → isP A p → A.D wo 10 = nI wd → A.D (p + 137) (c + 1) = nI (E 5 (c + 1)) → (∀ m, m < E 5 (E 4 0) → A.D (p + 89 + m) 3 = nI (E 6 m)) → ∃ A2, B_World_giveAt_27 N wo p (nI q) (nI c) n (p + 70) (nI i) A = some ((), A2) ∧ same (fun a f => a = wo + 3 ∧ q * wd + i ≤ f ∧ f < q * wd + E 5 (c + 1)) A A2 ∧ ∀ m, i ≤ m → m < E 5 (c + 1) → A2.D (wo + 3) (q * wd + m) = fstV (E 6 m) := by
  obtain ⟨e1, -, e3, e4, e5, -⟩ := hE
  have c3 := e3 c hc
  intro j
  induction j with
  | zero =>
    intro n i A hi hn W hP h10 h137 h89
    obtain ⟨n, rfl⟩ : ∃ y, n = y + 1 := ⟨n - 1, by omega⟩
    refine ⟨A, ?_, same.rf, fun m _ _ => by omega⟩
    rw [B_World_giveAt_27, ck_t (PrA_2 hP), rf_t (PcP_2 hP), ar_t (PcA_2 hP), nI_1, rdI (show c + 1 < 17 by omega) (by decide), h137, if_pos (show nI (E 5 (c + 1)) ≤ nI i from nI_le (by omega) (by omega))]
  | succ j ih =>
    intro n i A hi hn W hP h10 h137 h89
    obtain ⟨n, rfl⟩ : ∃ y, n = y + 1 := ⟨n - 1, by omega⟩
    have hM := PcM hP i (by omega)
    have e4' : (nI (E 6 i) = (4 : Int32)) = (E 6 i = 4) := propext (nI_eq (b := 4) (by have := e5 i (by omega); omega) (by decide))
    have eF : F_Program_firstValue N p (nI i) A = some (fstV (E 6 i), A) := by
      unfold F_Program_firstValue fstV
      rw [ck_t (PrS hP), rf_t (PrP_2 hP), ck_t (PrA_2 hP), rf_t (PcP_1 hP), ar_t (PcA_1 hP), rdP (show i < 48 by omega) (by decide), rf_t hM.1, ck_t hM.2, bnd_t, h89 i (by omega)]
      simp only [e4']
      split <;> rfl
    obtain ⟨A2, r1, r2, r3⟩ := ih n (i + 1) (A.sD (wo + 3) (q * wd + i) (fstV (E 6 i))) (by omega) (by omega) W hP (by rw [rdw (by omega)]; exact h10) (by rw [rdw (by omega)]; exact h137) (fun m hm => by rw [rdw (by omega)]; exact h89 m hm)
    refine ⟨A2, ?_, ((same.rf (H := A)).sD (by omega)).tr (r2.mono fun a f y => by omega), fun m h1 h2 => ?_⟩
    · rw [B_World_giveAt_27, ck_t (PrA_2 hP), rf_t (PcP_2 hP), ar_t (PcA_2 hP), nI_1, rdI (show c + 1 < 17 by omega) (by decide), h137, if_neg (show ¬ nI (E 5 (c + 1)) ≤ nI i from nI_ge (by omega) (by omega)), ck_t (PrS hP), bC_t eF, ck_t (WS W), bC_t (ev_write W h10 hwd hq (by omega)), nI_1]
      exact r1
    · by_cases y : m = i
      · rw [r2.1 _ _ (by omega), y, rds]
      · exact r3 m (by omega) h2
theorem ev_gvs {c : Nat} {v : Int32} (hE : WE E) (hc : c < E 4 0) (hwu : w + 30 < u) : ∀ j n i B, i + j = E 5 (c + 1) → j < n → isU B u → isT B w → B.D (w + 12) (c + 1) = nI (E 5 (c + 1)) → (∀ m, m < E 5 (E 4 0) → B.D (w + 13) m = nI (E 6 m)) → ∃ B2, B_MWorld_gives_43 N u w v (nI c) n (nI i) B = some (1, B2) ∧ same (fun a f => a = u + 4 ∧ 48 * lo8 v + i ≤ f ∧ f < 48 * lo8 v + E 5 (c + 1)) B B2 ∧ ∀ m, i ≤ m → m < E 5 (c + 1) → B2.D (u + 4) (48 * lo8 v + m) = fstV (E 6 m) := by
  obtain ⟨e1, -, e3, e4, e5, -⟩ := hE
  have c3 := e3 c hc
  have l8 : lo8 v < 256 := lo8_lt
  intro j
  induction j with
  | zero =>
    intro n i B hi hn U T h12 h13
    obtain ⟨n, rfl⟩ : ∃ y, n = y + 1 := ⟨n - 1, by omega⟩
    refine ⟨B, ?_, same.rf, fun m _ _ => by omega⟩
    rw [B_MWorld_gives_43, ck_t (TS T), rf_t (TP_18 T), ar_t (TA_18 T), nI_1, rdI (show c + 1 < 17 by omega) (by decide), h12, if_pos (show nI (E 5 (c + 1)) ≤ nI i from nI_le (by omega) (by omega))]
  | succ j ih =>
    intro n i B hi hn U T h12 h13
    obtain ⟨n, rfl⟩ : ∃ y, n = y + 1 := ⟨n - 1, by omega⟩
    obtain ⟨B2, r1, r2, r3⟩ := ih n (i + 1) (B.sD (u + 4) (48 * lo8 v + i) (fstV (E 6 i))) (by omega) (by omega) U T (by rw [rdw (by omega)]; exact h12) (fun m hm => by rw [rdw (by omega)]; exact h13 m hm)
    refine ⟨B2, ?_, ((same.rf (H := B)).sD (by omega)).tr (r2.mono fun a f y => by omega), fun m h1 h2 => ?_⟩
    · rw [B_MWorld_gives_43, ck_t (TS T), rf_t (TP_18 T), ar_t (TA_18 T), nI_1, rdI (show c + 1 < 17 by omega) (by decide), h12, if_neg (show ¬ nI (E 5 (c + 1)) ≤ nI i from nI_ge (by omega) (by omega)), ck_t (US U), rf_t (UP_7 U), rf_t (TP_19 T), ar_t (TA_19 T), rdI (show i < 48 by omega) (by decide), h13 i (by omega), bC_t (ev_first (e5 i (by omega))), ar_t (UA_7 U), lo8_e, show (48 : Int32) * nI (lo8 v) + nI i = nI (48 * lo8 v + i) from nI_ma 48 _ i, wrI (show 48 * lo8 v + i < 12288 by omega) (by decide), nI_1]
      exact r1
    · by_cases y : m = i
      · rw [r2.1 _ _ (by omega), y, rds]
      · exact r3 m (by omega) h2
theorem ar_gv {A B : Hp} {la z k : Nat} (h : ACS A la z B wo u k E Q) (h0 : B.P 611 0 = .ref w) (g0 : B.D 612 (12 * k) = 224) : F_MRunner_acts N 611 (nI (12 * k)) B = bC (F_MWorld_gives N u w (B.D 612 (12 * k + 1)) (B.D 612 (12 * k + 2)) B) fun v H => ck (v &&& 1 = v) <| some (v, H) := by
  obtain ⟨hGA, hGB, hw, hu, h116, h611, hL, hk, hk2, hW⟩ := h
  have U := gr_U hGB u hu
  have i1 : 12 * k + 1 < 393216 := by omega
  have i2 : 12 * k + 2 < 393216 := by omega
  have i0 : 12 * k < 393216 := by omega
  unfold F_MRunner_acts
  rw [ck_t (rS_611 hGB), rf_t (rP_611_3 hGB), ar_t (rA_611_3 hGB), nI_1, rdI i1 (by decide), rf_t (rP_611_3 hGB), ar_t (rA_611_3 hGB), show nI (12 * k) + (2 : Int32) = nI (12 * k + 2) from nI_ad _ 2, rdI i2 (by decide), rf_t (rP_611_3 hGB), ar_t (rA_611_3 hGB), rdI i0 (by decide), g0, if_neg (by decide), if_neg (by decide), if_pos rfl, rf_t h611, rf_t h0, ck_t (US U)]
theorem ac_give {A B : Hp} {Pv : Nat → Nat → Int32} {la z k c : Nat} {v : Int32} (hN : 300 ≤ N) (hE : WE E) (hT : ATX A p B w E Pv) (h : ACS A la z B wo u k E Q) (hc : c < E 4 0) (f0 : A.D la (11 * k) = 22) (g0 : B.D 612 (12 * k) = 224) (f1 : A.D la (11 * k + 1) = v) (g1 : B.D 612 (12 * k + 1) = v) (f2 : A.D la (11 * k + 2) = nI c) (g2 : B.D 612 (12 * k + 2) = nI c) : ACT N wo u la k E Q A B := by
  have hz := h.z
  obtain ⟨t1, t2, t3, t4, t5, t6, t7, -, -⟩ := hT
  have eA := ac_hd (N := N) h (by rw [f0]; decide) f1
  have eB := ar_gv (N := N) h t4 g0
  obtain ⟨hGA, hGB, hw, hu, h116, h611, hL, hk, hk2, hW⟩ := h
  have hwo := lW_le hw
  have hu' := lU_le hu
  have hT' := lT_le t2
  have W := gr_W hGA wo hw
  have U := gr_U hGB u hu
  have hP := gr_P hGA t1
  have T := gr_T hGB w t2
  have hW' := hW
  obtain ⟨w1, w2, w3, w4, w5, w6, w7⟩ := hW
  have l8 : lo8 v < 256 := lo8_lt
  have c16 : c < 16 := by have := hE.1; omega
  have e3 := hE.2.2.1 c hc
  have e4 := hE.2.2.2.1
  rw [g1, g2] at eB
  unfold F_MWorld_gives at eB
  rw [ck_t (US U), bC_t (ev_malive U w2)] at eB
  have nothing : F_Ticker_acts N 116 la (nI (11 * k)) A = some (0, A) → F_MRunner_acts N 611 (nI (12 * k)) B = some (0, B) → ACT N wo u la k E Q A B := fun y1 y2 => ⟨0, 0, A, B, Q, y1, y2, Iff.rfl, same.rf, same.rf, hW', fun x _ _ _ _ => rfl, rfl, id, fun q => .inl rfl⟩
  by_cases a : liv Q v
  · have aq := a.1
    obtain ⟨p1, p2, p3, p4⟩ := w1 (lo8 v) l8
    have p5 := (w2 (lo8 v) l8).2.2.2.2 aq
    rw [if_pos aq] at p4
    have msk : nI (Q 2 (lo8 v)) ||| ((1 : Int32) <<< (nI c &&& 31)) = nI (Q 2 (lo8 v) ||| 2 ^ c) := by
      rw [nI_shl (by omega), nI_or]
    rw [if_pos a] at eA
    rw [if_pos a, if_neg (show ¬ (1 : Int32) = 0 by decide), bC_t (ev_mhas U w2 c16)] at eB
    by_cases b : Q 2 (lo8 v) / 2 ^ c % 2 = 1
    · have eO : F_Ticker_actOn N 116 la (nI (11 * k)) (nI (lo8 v)) A = some (0, A) := by
        unfold F_Ticker_actOn B_Ticker_actOn_57
        rw [if_pos (show (0 : Int32) ≤ nI (lo8 v) from nI_le (a := 0) (by omega) (by omega)), ar_t hL.2.1, rdI (show 11 * k < z by omega) (by omega), f0, if_neg (show ¬ (22 : Int32) = 21 by decide), show nI (11 * k) + (2 : Int32) = nI (11 * k + 2) from nI_ad _ 2, rdI (show 11 * k + 2 < z by omega) (by omega), f2, ck_t (rS_116 hGA), rf_t h116, ck_t (WS W), bC_t (ev_owns W w1 l8 c16 aq), if_pos (show (22 : Int32) = 22 from rfl), if_pos b, if_pos rfl]
      rw [eO, bC_v, ck_t (by decide)] at eA
      rw [if_pos (show liv Q v ∧ Q 2 (lo8 v) / 2 ^ c % 2 = 1 from ⟨a, b⟩), if_neg (show ¬ (1 : Int32) = 0 by decide), bC_v, ck_t (by decide)] at eB
      exact nothing eA eB
    · have nb : Q 2 (lo8 v) ||| 2 ^ c < 65536 := Nat.or_lt_two_pow (n := 16) p3 (Nat.pow_lt_pow_right (by decide) c16)
      have sub : ∀ c2, c2 ≠ c → (Q 2 (lo8 v) ||| 2 ^ c) / 2 ^ c2 % 2 = 1 → Q 2 (lo8 v) / 2 ^ c2 % 2 = 1 := fun c2 y0 y => by
        rw [bit_d, Nat.testBit_or, Nat.testBit_two_pow_of_ne (fun y => y0 y.symm), Bool.or_false] at y
        exact bit_d.mpr y
      obtain ⟨A2, r1, r2, r3⟩ := ev_giv (N := N) hE hc l8 w4.2.1 (show wo + 5 < p by omega) (E 5 (c + 1) - E 5 c) N (E 5 c) (A.sD (wo + 2) (lo8 v) (nI (Q 2 (lo8 v) ||| 2 ^ c))) (by omega) (by omega) W hP (by rw [rdw (by omega)]; exact w4.1) (by rw [rdw (by omega)]; exact t5 (c + 1) (by omega)) (fun m hm => by rw [rdw (by omega)]; exact t6 m hm)
      obtain ⟨B2, s1, s2, s3⟩ := ev_gvs (N := N) (v := v) hE hc (show w + 30 < u by omega) (E 5 (c + 1) - E 5 c) N (E 5 c) (B.sD (u + 3) (lo8 v) (nI (Q 2 (lo8 v) ||| 2 ^ c))) (by omega) (by omega) U T (by rw [rdw (by omega)]; exact t7.1 (c + 1) (by omega)) (fun m hm => by rw [rdw (by omega)]; exact t7.2.1 m hm)
      have hP2 : isP (A.sD (wo + 2) (lo8 v) (nI (Q 2 (lo8 v) ||| 2 ^ c))) p := hP
      have T2 : isT (B.sD (u + 3) (lo8 v) (nI (Q 2 (lo8 v) ||| 2 ^ c))) w := T
      have eO : F_Ticker_actOn N 116 la (nI (11 * k)) (nI (lo8 v)) A = some (1, A2) := by
        unfold F_Ticker_actOn B_Ticker_actOn_57 F_World_giveAt
        rw [if_pos (show (0 : Int32) ≤ nI (lo8 v) from nI_le (a := 0) (by omega) (by omega)), ar_t hL.2.1, rdI (show 11 * k < z by omega) (by omega), f0, if_neg (show ¬ (22 : Int32) = 21 by decide), show nI (11 * k) + (2 : Int32) = nI (11 * k + 2) from nI_ad _ 2, rdI (show 11 * k + 2 < z by omega) (by omega), f2, ck_t (rS_116 hGA), rf_t h116, ck_t (WS W), bC_t (ev_owns W w1 l8 c16 aq), if_pos (show (22 : Int32) = 22 from rfl), if_neg b, if_neg (show ¬ (0 : Int32) = 1 by decide), if_pos (show (22 : Int32) = 22 from rfl), ck_t (rS_116 hGA), rf_t h116, rf_t t3, ck_t (WS W), ck_t (WS W), rf_t (WP_8 W), ar_t (WA_8 W), rdI l8 (by decide), p4, msk, wrI l8 (by decide), ck_t (PrS hP2), rf_t (PrP_2 hP2), ck_t (PrA_2 hP2), rf_t (PcP_2 hP2), ar_t (PcA_2 hP2), rdI (show c < 17 by omega) (by decide), rdw (by omega), t5 c (by omega), r1, bC_v]
      rw [eO, bC_v, ck_t (by decide)] at eA
      rw [if_neg (show ¬ (liv Q v ∧ Q 2 (lo8 v) / 2 ^ c % 2 = 1) from fun y => b y.2), if_pos rfl, rf_t (UP_6 U), ar_t (UA_6 U), lo8_e, rdI l8 (by decide), p5, msk, wrI l8 (by decide), ck_t (TS T2), rf_t (TP_18 T2), ar_t (TA_18 T2), rdI (show c < 17 by omega) (by decide), rdw (by omega), t7.1 c (by omega), s1, bC_v, ck_t (by decide)] at eB
      generalize Q 2 (lo8 v) ||| 2 ^ c = nbv at *
      generalize lo8 v = q at *
      have dA : ∀ x f, ¬ (x = wo + 2 ∧ f = q) → ¬ (x = wo + 3 ∧ q * Q 5 0 + E 5 c ≤ f ∧ f < q * Q 5 0 + E 5 (c + 1)) → A2.D x f = A.D x f := fun x f y1 y2 => by
        rw [r2.1 _ _ y2]
        by_cases y : x = wo + 2
        · rw [y, rdf (fun z => y1 ⟨y, z⟩)]
        · rw [rdw y]
      have dB : ∀ x f, ¬ (x = u + 3 ∧ f = q) → ¬ (x = u + 4 ∧ 48 * q + E 5 c ≤ f ∧ f < 48 * q + E 5 (c + 1)) → B2.D x f = B.D x f := fun x f y1 y2 => by
        rw [s2.1 _ _ y2]
        by_cases y : x = u + 3
        · rw [y, rdf (fun z => y1 ⟨y, z⟩)]
        · rw [rdw y]
      have qA : A2.D (wo + 2) q = nI nbv := by rw [r2.1 _ _ (by omega), rds]
      have qB : B2.D (u + 3) q = nI nbv := by rw [s2.1 _ _ (by omega), rds]
      have o2 : ∀ x, x ≠ q → upR Q 2 q nbv 2 x = Q 2 x := fun x y => upR_n y
      have z2 : upR Q 2 q nbv 2 q = nbv := upR_s
      have o : ∀ x, x ≠ 2 → upR Q 2 q nbv x = Q x := fun x y => upR_o y
      generalize upR Q 2 q nbv = Q2 at o2 z2 o
      refine ⟨1, 1, A2, B2, Q2, eA, eB, Iff.rfl, ((same.rf (H := A)).sD (.inr (by omega))).tr (r2.mono fun a f y => .inr (by omega)), ((same.rf (H := B)).sD (.inr (by omega))).tr (s2.mono fun a f y => .inr (by omega)), ?_, fun x _ _ y _ => o x y, by rw [o 5 (by decide)], fun cc => cc.fr (fun x c2 m y1 y2 y3 y4 y5 => by
        have m2l := (mOf_lt hE y4).2.1
        rw [o 1 (by decide)] at y2
        by_cases y : x = q
        · by_cases ym : E 5 c ≤ m ∧ m < E 5 (c + 1)
          · rw [y, s3 m ym.1 ym.2, y5]
            exact .inr cc.1
          · rw [y, z2] at y3
            have cn : c2 ≠ c := fun z => ym (by rw [← z]; exact ⟨y4.2.1, y4.2.2⟩)
            exact .inl ⟨y2, by rw [y]; exact sub c2 cn y3, dB _ _ (by omega) (by omega)⟩
        · rw [o2 x y] at y3
          exact .inl ⟨y2, y3, dB _ _ (by omega) (by omega)⟩) (by rw [o 5 (by decide)]) (fun a f y => dB _ _ (by omega) (by omega)), fun x => .inl (by rw [o 0 (by decide)])⟩
      unfold WRL PPL PPB
      rw [o 0 (by decide), o 1 (by decide), o 5 (by decide)]
      refine ⟨fun x hx => ?_, fun x hx => ?_, fun x c2 m y1 y2 y3 y4 => ?_, ⟨by rw [dA _ _ (by omega) (by omega)]; exact w4.1, w4.2⟩, ⟨by rw [dA _ _ (by omega) (by omega)]; exact w5.1, w5.2⟩, ⟨by rw [dA _ _ (by omega) (by omega)]; exact w6.1, by rw [dB _ _ (by omega) (by omega)]; exact w6.2.1, w6.2.2.1, fun k hk => ?_⟩, by rw [dA _ _ (by omega) (by omega)]; exact w7.1, by rw [dB _ _ (by omega) (by omega)]; exact w7.2.1, w7.2.2.1, fun k hk => by rw [dA _ _ (by omega) (by omega), dB _ _ (by omega) (by omega)]; exact w7.2.2.2 k hk⟩
      · obtain ⟨k1, k2, k3, k4⟩ := w1 x hx
        rw [dA (wo + 1) _ (by omega) (by omega)]
        by_cases y : x = q
        · subst y
          rw [z2, qA, if_pos aq]
          exact ⟨k1, k2, nb, rfl⟩
        · rw [o2 x y, dA _ _ (by omega) (by omega)]
          exact ⟨k1, k2, k3, k4⟩
      · obtain ⟨k1, k2, k3, k4, k5⟩ := w2 x hx
        rw [dB (u + 1) _ (by omega) (by omega), dB (u + 2) _ (by omega) (by omega)]
        by_cases y : x = q
        · subst y
          rw [z2, qB]
          exact ⟨k1, k2, nb, k4, fun _ => rfl⟩
        · rw [o2 x y, dB _ _ (by omega) (by omega)]
          exact ⟨k1, k2, k3, k4, k5⟩
      · have m2l := (mOf_lt hE y4).2.1
        have wd := w4.2.2 c2 m y4
        by_cases y : x = q
        · by_cases ym : E 5 c ≤ m ∧ m < E 5 (c + 1)
          · rw [y, r3 m ym.1 ym.2, s3 m ym.1 ym.2]
          · rw [y, z2] at y3
            have cn : c2 ≠ c := fun z => ym (by rw [← z]; exact ⟨y4.2.1, y4.2.2⟩)
            rw [dA _ _ (by omega) (by rw [y]; omega), dB _ _ (by omega) (by omega)]
            exact w3 x c2 m y1 y2 (by rw [y]; exact sub c2 cn y3) y4
        · rw [o2 x y] at y3
          have nA : ¬ (q * Q 5 0 + E 5 c ≤ x * Q 5 0 + m ∧ x * Q 5 0 + m < q * Q 5 0 + E 5 (c + 1)) := fun z => by
            have w50 := w4.2.2 c (E 5 (c + 1) - 1) ⟨hc, by omega, by omega⟩
            have zz : x * Q 5 0 + m = q * Q 5 0 + (x * Q 5 0 + m - q * Q 5 0) := by omega
            exact y (ix_inj zz (by omega) wd).1
          rw [dA _ _ (by omega) (fun z => nA z.2), dB _ _ (by omega) (by omega)]
          exact w3 x c2 m y1 y2 y3 y4
      · rw [dA _ _ (by omega) (by omega), dA _ _ (by omega) (by omega), dA _ _ (by omega) (by omega), dB _ _ (by omega) (by omega), dB _ _ (by omega) (by omega), dB _ _ (by omega) (by omega)]
        obtain ⟨m0, m1, m2, m3⟩ := w6.2.2.2 k hk
        exact ⟨m0, m1, m2, fun e q y1 y2 y3 => by rw [dA _ _ (by omega) (by omega), dB _ _ (by omega) (by omega)]; exact m3 e q y1 y2 y3⟩
  · rw [if_neg a, ac_no, bC_v, ck_t (by decide)] at eA
    rw [if_neg a, if_pos rfl, bC_v, ck_t (by decide)] at eB
    exact nothing eA eB
end Par
