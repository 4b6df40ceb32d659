/-! ===== drop, take act alike ===== -/
section Par
variable {N p wo inp cs w u ir M K0 : Nat} {s pl : Int32} {ty mn nu cd : Nat → Int32} {E Q : Nat → Nat → Nat} {V : Nat → Nat → Int32} {nL lc : Nat} {lk : Nat → Nat} {hd : Nat → Int32}
theorem ac_drop {A B : Hp} {la z k : Nat} {v : Int32} (h : ACS A la z B wo u k E Q) (hgen : liv Q v → Q 0 (lo8 v) + 1 < 8388608) (f0 : A.D la (11 * k) = 21) (g0 : B.D 612 (12 * k) = 223) (f1 : A.D la (11 * k + 1) = v) (g1 : B.D 612 (12 * k + 1) = v) : ACT N wo u la k E Q A B := by
  have hz := h.z
  have eA := ac_hd (N := N) h (by rw [f0]; decide) f1
  have eB := (ar_hd (N := N) h).1 g0
  obtain ⟨hGA, hGB, hw, hu, h116, h611, hL, hk, hk2, hW⟩ := h
  have hwo := lW_le hw
  have hu' := lU_le hu
  have W := gr_W hGA wo hw
  have U := gr_U hGB u hu
  have hW' := hW
  obtain ⟨w1, w2, w3, w4, w5, w6, w7⟩ := hW
  have l8 : lo8 v < 256 := lo8_lt
  rw [g1] at eB
  unfold F_MWorld_drops at eB
  rw [ck_t (US U), bC_t (ev_malive U w2)] at eB
  by_cases a : liv Q v
  · have hg := hgen a
    clear hgen
    rw [if_pos a] at eA
    rw [if_pos a, if_neg (show ¬ (1 : Int32) = 0 by decide), rf_t (UP_5 U), ar_t (UA_5 U), lo8_e] at eB
    generalize hqv : lo8 v = q at *
    have W2 : isW (A.sD (wo + 2) q (-1)) wo := W
    have U2 : isU (B.sD (u + 2) q 0) u := U
    have U3 : isU ((B.sD (u + 2) q 0).sD (u + 3) q 0) u := U
    have eO : F_Ticker_actOn N 116 la (nI (11 * k)) (nI q) A = some (1, (A.sD (wo + 2) q (-1)).sD (wo + 1) q (nI (Q 0 q + 1))) := by
      unfold F_Ticker_actOn F_World_remove
      rw [if_pos (show (0 : Int32) ≤ nI q from nI_le (a := 0) (by omega) (by omega)), ar_t hL.2.1, rdI (show 11 * k < z by omega) (by omega), f0, if_pos (show (21 : Int32) = 21 from rfl), ck_t (rS_116 hGA), rf_t h116, ck_t (WS W), ck_t (WS W), rf_t (WP_8 W), ar_t (WA_8 W), wrI l8 (by decide), rf_t (WP_7 W2), ar_t (WA_7 W2), rdI l8 (by decide), rdw (by omega), (w1 q l8).1, nI_1, wrI l8 (by decide), bC_v]
    rw [eO, bC_v, ck_t (by decide)] at eA
    rw [wrI l8 (by decide), show vp_nar .boolean (0 : Int32) = (0 : Int32) from rfl, rf_t (UP_6 U2), ar_t (UA_6 U2), wrI l8 (by decide), rf_t (UP_4 U3), ar_t (UA_4 U3), rdI l8 (by decide), rdw (by omega), rdw (by omega), (w2 q l8).1, nI_1, wrI l8 (by decide), bC_v, ck_t (by decide)] at eB
    have dA : ∀ a f, a ≠ wo + 1 → a ≠ wo + 2 → ((A.sD (wo + 2) q (-1)).sD (wo + 1) q (nI (Q 0 q + 1))).D a f = A.D a f := fun a f y1 y2 => by rw [rdw y1, rdw y2]
    have dB : ∀ a f, a ≠ u + 1 → a ≠ u + 2 → a ≠ u + 3 → (((B.sD (u + 2) q 0).sD (u + 3) q 0).sD (u + 1) q (nI (Q 0 q + 1))).D a f = B.D a f := fun a f y1 y2 y3 => by rw [rdw y1, rdw y3, rdw y2]
    have o0 : ∀ x, x ≠ q → upR (upR Q 1 q 0) 0 q (Q 0 q + 1) 0 x = Q 0 x := fun x y => by rw [upR_n y, upR_o (by decide)]
    have s0 : upR (upR Q 1 q 0) 0 q (Q 0 q + 1) 0 q = Q 0 q + 1 := upR_s
    have o1 : ∀ x, x ≠ q → upR (upR Q 1 q 0) 0 q (Q 0 q + 1) 1 x = Q 1 x := fun x y => by rw [upR_o (by decide), upR_n y]
    have s1 : upR (upR Q 1 q 0) 0 q (Q 0 q + 1) 1 q = 0 := by rw [upR_o (by decide), upR_s]
    have o2 : ∀ x, x ≠ 0 → x ≠ 1 → upR (upR Q 1 q 0) 0 q (Q 0 q + 1) x = Q x := fun x y1 y2 => by rw [upR_o y1, upR_o y2]
    generalize upR (upR Q 1 q 0) 0 q (Q 0 q + 1) = Q2 at o0 s0 o1 s1 o2
    refine ⟨1, 1, _, _, Q2, eA, eB, Iff.rfl, same.sD (same.sD same.rf (.inr (by omega))) (.inr (by omega)), same.sD (same.sD (same.sD same.rf (.inr (by omega))) (.inr (by omega))) (.inr (by omega)), ?_, fun x y0 y1 _ _ => o2 x y0 y1, by rw [o2 5 (by decide) (by decide)], fun cc => cc.fr (fun x c m y1 y2 y3 y4 y5 => by
      have y : x ≠ q := fun z => by rw [z, s1] at y2; exact absurd y2 (by decide)
      rw [o1 x y] at y2
      rw [o2 2 (by decide) (by decide)] at y3
      exact .inl ⟨y2, y3, dB _ _ (by omega) (by omega) (by omega)⟩) (by rw [o2 5 (by decide) (by decide)]) (fun a f y => dB _ _ (by omega) (by omega) (by omega)), fun x => ?_⟩
    · unfold WRL PPL PPB
      rw [o2 2 (by decide) (by decide), o2 5 (by decide) (by decide)]
      refine ⟨fun x hx => ?_, fun x hx => ?_, fun x c m y1 y2 y3 y4 => ?_, ⟨by rw [dA _ _ (by omega) (by omega)]; exact w4.1, w4.2⟩, ⟨by rw [dA _ _ (by omega) (by omega)]; exact w5.1, w5.2.1, fun x y1 y2 => ?_⟩, ⟨by rw [dA _ _ (by omega) (by omega)]; exact w6.1, by rw [dB _ _ (by omega) (by omega) (by omega)]; exact w6.2.1, w6.2.2.1, fun k hk => ?_⟩, by rw [dA _ _ (by omega) (by omega)]; exact w7.1, by rw [dB _ _ (by omega) (by omega) (by omega)]; exact w7.2.1, w7.2.2.1, fun k hk => by rw [dA _ _ (by omega) (by omega), dB _ _ (by omega) (by omega) (by omega)]; exact w7.2.2.2 k hk⟩
      · obtain ⟨p1, p2, p3, p4⟩ := w1 x hx
        by_cases y : x = q
        · subst y
          rw [s0, s1]
          refine ⟨rds, hg, p3, ?_⟩
          rw [rdw (by omega), rds, if_neg (by decide)]
        · rw [o0 x y, o1 x y, rdf y, rdw (by omega), rdw (by omega), rdf y]
          exact ⟨p1, p2, p3, p4⟩
      · obtain ⟨p1, p2, p3, p4, p5⟩ := w2 x hx
        by_cases y : x = q
        · subst y
          rw [s0, s1]
          refine ⟨rds, hg, p3, ?_, fun z => absurd z (by decide)⟩
          rw [rdw (by omega), rdw (by omega), rds, if_neg (by decide)]
        · rw [o0 x y, o1 x y, rdf y, rdw (by omega), rdw (by omega), rdw (by omega), rdw (by omega), rdf y, rdw (by omega), rdf y, rdw (by omega)]
          exact ⟨p1, p2, p3, p4, p5⟩
      · have y : x ≠ q := fun z => by rw [z, s1] at y2; exact absurd y2 (by decide)
        rw [o1 x y] at y2
        rw [dA _ _ (by omega) (by omega), dB _ _ (by omega) (by omega) (by omega)]
        exact w3 x c m y1 y2 y3 y4
      · by_cases y : x = q
        · rw [y, s1]; decide
        · rw [o1 x y]; exact w5.2.2 x y1 y2
      · rw [dA _ _ (by omega) (by omega), dA _ _ (by omega) (by omega), dA _ _ (by omega) (by omega), dB _ _ (by omega) (by omega) (by omega), dB _ _ (by omega) (by omega) (by omega), dB _ _ (by omega) (by omega) (by omega)]
        obtain ⟨m0, m1, m2, m3⟩ := w6.2.2.2 k hk
        exact ⟨m0, m1, m2, fun e q y1 y2 y3 => by rw [dA _ _ (by omega) (by omega), dB _ _ (by omega) (by omega) (by omega)]; exact m3 e q y1 y2 y3⟩
    · by_cases y : x = q
      · rw [y, s0]
        exact .inr ⟨rfl, g0, by rw [g1]; exact a, by rw [g1]; exact hqv⟩
      · exact .inl (o0 x y)
  · rw [if_neg a, ac_no, bC_v, ck_t (by decide)] at eA
    rw [if_neg a, if_pos rfl, bC_v, ck_t (by decide)] at eB
    exact ⟨0, 0, A, B, Q, eA, eB, Iff.rfl, same.rf, same.rf, hW', fun x _ _ _ _ => rfl, rfl, id, fun q => .inl rfl⟩
theorem ac_take {A B : Hp} {la z k c : Nat} {v : Int32} (h : ACS A la z B wo u k E Q) (c16 : c < 16) (f0 : A.D la (11 * k) = 23) (g0 : B.D 612 (12 * k) = 225) (f1 : A.D la (11 * k + 1) = v) (g1 : B.D 612 (12 * k + 1) = v) (f2 : A.D la (11 * k + 2) = nI c) (g2 : B.D 612 (12 * k + 2) = nI c) : ACT N wo u la k E Q A B := by
  have hz := h.z
  have eA := ac_hd (N := N) h (by rw [f0]; decide) f1
  have eB := (ar_hd (N := N) h).2.1 g0
  obtain ⟨hGA, hGB, hw, hu, h116, h611, hL, hk, hk2, hW⟩ := h
  have hwo := lW_le hw
  have hu' := lU_le hu
  have W := gr_W hGA wo hw
  have U := gr_U hGB u hu
  have hW' := hW
  obtain ⟨w1, w2, w3, w4, w5, w6, w7⟩ := hW
  have l8 : lo8 v < 256 := lo8_lt
  rw [g1, g2] at eB
  unfold F_MWorld_takes at eB
  rw [ck_t (US U), bC_t (ev_mhas U w2 c16)] at eB
  have nothing : F_Ticker_acts N 116 la (nI (11 * k)) A = some (0, A) → F_MRunner_acts N 611 (nI (12 * k)) B = some (0, B) → ACT N wo u la k E Q A B := fun y1 y2 => ⟨0, 0, A, B, Q, y1, y2, Iff.rfl, same.rf, same.rf, hW', fun x _ _ _ _ => rfl, rfl, id, fun q => .inl rfl⟩
  by_cases a : liv Q v
  · have aq := a.1
    obtain ⟨p1, p2, p3, p4⟩ := w1 (lo8 v) l8
    have p5 := (w2 (lo8 v) l8).2.2.2.2 aq
    rw [if_pos aq] at p4
    have msk : nI (Q 2 (lo8 v)) &&& (((1 : Int32) <<< (nI c &&& 31)) ^^^ ((-1) : Int32)) = nI (Q 2 (lo8 v) &&& (2 ^ c ^^^ 4294967295)) := by
      rw [nI_shl (by omega), nI_xm, nI_and _ _ (by omega)]
    have eO : F_Ticker_actOn N 116 la (nI (11 * k)) (nI (lo8 v)) A = (if (if Q 2 (lo8 v) / 2 ^ c % 2 = 1 then (1 : Int32) else 0) = 0 then some (0, A) else some (1, A.sD (wo + 2) (lo8 v) (nI (Q 2 (lo8 v) &&& (2 ^ c ^^^ 4294967295))))) := by
      unfold F_Ticker_actOn B_Ticker_actOn_57 F_World_takeAt
      rw [if_pos (show (0 : Int32) ≤ nI (lo8 v) from nI_le (a := 0) (by omega) (by omega)), ar_t hL.2.1, rdI (show 11 * k < z by omega) (by omega), f0, if_neg (show ¬ (23 : Int32) = 21 by decide), show nI (11 * k) + (2 : Int32) = nI (11 * k + 2) from nI_ad _ 2, rdI (show 11 * k + 2 < z by omega) (by omega), f2, ck_t (rS_116 hGA), rf_t h116, ck_t (WS W), bC_t (ev_owns W w1 l8 c16 aq), if_neg (show ¬ (23 : Int32) = 22 by decide), if_neg (show ¬ (23 : Int32) = 22 by decide), if_pos (show (23 : Int32) = 23 from rfl), ck_t (rS_116 hGA), rf_t h116, ck_t (WS W), ck_t (WS W), rf_t (WP_8 W), ar_t (WA_8 W), rdI l8 (by decide), p4, msk, wrI l8 (by decide), bC_v]
    rw [if_pos a, eO] at eA
    by_cases b : Q 2 (lo8 v) / 2 ^ c % 2 = 1
    · rw [if_pos b, if_neg (show ¬ (1 : Int32) = 0 by decide), bC_v, ck_t (by decide)] at eA
      rw [if_pos (show liv Q v ∧ Q 2 (lo8 v) / 2 ^ c % 2 = 1 from ⟨a, b⟩), if_neg (show ¬ (1 : Int32) = 0 by decide), rf_t (UP_6 U), ar_t (UA_6 U), lo8_e, rdI l8 (by decide), p5, msk, wrI l8 (by decide), bC_v, ck_t (by decide)] at eB
      have nb : Q 2 (lo8 v) &&& (2 ^ c ^^^ 4294967295) < 65536 := and_lt p3
      have sub : ∀ c2, (Q 2 (lo8 v) &&& (2 ^ c ^^^ 4294967295)) / 2 ^ c2 % 2 = 1 → Q 2 (lo8 v) / 2 ^ c2 % 2 = 1 := fun c2 y => by
        rw [bit_d, Nat.testBit_and, Bool.and_eq_true] at y
        exact bit_d.mpr y.1
      generalize Q 2 (lo8 v) &&& (2 ^ c ^^^ 4294967295) = nbv at eA eB nb sub
      generalize lo8 v = q at *
      have o2 : ∀ x, x ≠ q → upR Q 2 q nbv 2 x = Q 2 x := fun x y => upR_n y
      have s2 : upR Q 2 q nbv 2 q = nbv := upR_s
      have o : ∀ x, x ≠ 2 → upR Q 2 q nbv x = Q x := fun x y => upR_o y
      generalize upR Q 2 q nbv = Q2 at o2 s2 o
      refine ⟨1, 1, _, _, Q2, eA, eB, Iff.rfl, same.sD same.rf (.inr (by omega)), same.sD same.rf (.inr (by omega)), ?_, fun x _ _ y _ => o x y, by rw [o 5 (by decide)], fun cc => cc.fr (fun x c m y1 y2 y3 y4 y5 => by
        rw [o 1 (by decide)] at y2
        refine .inl ⟨y2, ?_, rdw (by omega)⟩
        by_cases y : x = q
        · rw [y, s2] at y3
          rw [y]
          exact sub c y3
        · rw [o2 x y] at y3
          exact y3) (by rw [o 5 (by decide)]) (fun a f y => rdw (by omega)), fun x => .inl (by rw [o 0 (by decide)])⟩
      unfold WRL PPL PPB
      rw [o 0 (by decide), o 1 (by decide), o 5 (by decide)]
      refine ⟨fun x hx => ?_, fun x hx => ?_, fun x c m y1 y2 y3 y4 => ?_, ⟨by rw [rdw (by omega)]; exact w4.1, w4.2⟩, ⟨by rw [rdw (by omega)]; exact w5.1, w5.2⟩, ⟨by rw [rdw (by omega)]; exact w6.1, by rw [rdw (by omega)]; exact w6.2.1, w6.2.2.1, fun k hk => ?_⟩, by rw [rdw (by omega)]; exact w7.1, by rw [rdw (by omega)]; exact w7.2.1, w7.2.2.1, fun k hk => by rw [rdw (by omega), rdw (by omega)]; exact w7.2.2.2 k hk⟩
      · obtain ⟨r1, r2, r3, r4⟩ := w1 x hx
        rw [rdw (by omega)]
        by_cases y : x = q
        · subst y
          rw [s2, rds, if_pos aq]
          exact ⟨r1, r2, nb, rfl⟩
        · rw [o2 x y, rdf y]
          exact ⟨r1, r2, r3, r4⟩
      · obtain ⟨r1, r2, r3, r4, r5⟩ := w2 x hx
        rw [rdw (by omega), rdw (by omega)]
        by_cases y : x = q
        · subst y
          rw [s2, rds]
          exact ⟨r1, r2, nb, r4, fun _ => rfl⟩
        · rw [o2 x y, rdf y]
          exact ⟨r1, r2, r3, r4, r5⟩
      · rw [rdw (by omega), rdw (by omega)]
        refine w3 x c m y1 y2 ?_ y4
        by_cases y : x = q
        · rw [y, s2] at y3
          rw [y]
          exact sub c y3
        · rw [o2 x y] at y3
          exact y3
      · rw [rdw (by omega), rdw (by omega), rdw (by omega), rdw (by omega), rdw (by omega), rdw (by omega)]
        obtain ⟨m0, m1, m2, m3⟩ := w6.2.2.2 k hk
        exact ⟨m0, m1, m2, fun e q y1 y2 y3 => by rw [rdw (by omega), rdw (by omega)]; exact m3 e q y1 y2 y3⟩
    · rw [if_neg b, if_pos rfl, bC_v, ck_t (by decide)] at eA
      rw [if_neg (show ¬ (liv Q v ∧ Q 2 (lo8 v) / 2 ^ c % 2 = 1) from fun y => b y.2), if_pos rfl, bC_v, ck_t (by decide)] at eB
      exact nothing eA eB
  · rw [if_neg a, ac_no, bC_v, ck_t (by decide)] at eA
    rw [if_neg (show ¬ (liv Q v ∧ Q 2 (lo8 v) / 2 ^ c % 2 = 1) from fun y => a y.1), if_pos rfl, bC_v, ck_t (by decide)] at eB
    exact nothing eA eB
end Par
