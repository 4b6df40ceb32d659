/-! ===== drop, take, give, bear act alike, outside ticks ===== -/
/-- both worlds were changed alike -/
def EDR (wo u : Nat) (E Q : Nat → Nat → Nat) (A B A2 B2 : Hp) (Q2 : Nat → Nat → Nat) : Prop := same (WCA wo) A A2 ∧ same (WCB u) B B2 ∧ WRL A2 wo B2 u E Q2 ∧ (LKC E Q B u → LKC E Q2 B2 u)
section Par
variable {N p wo inp cs w u ir M K0 : Nat} {s pl : Int32} {ty mn nu cd : Nat → Int32} {E Q : Nat → Nat → Nat} {V : Nat → Nat → Int32} {nL lc : Nat} {lk : Nat → Nat} {hd : Nat → Int32}
theorem dr_co {A B : Hp} {v : Int32} (hGA : Gr A) (hGB : Gr B) (hw : wo ∈ lW) (hu : u ∈ lU) (hW : WRL A wo B u E Q) (a : liv Q v) (hg : Q 0 (lo8 v) + 1 < 8388608) : ∃ A2 B2 Q2, F_World_remove N wo (nI (lo8 v)) A = some ((), A2) ∧ F_MWorld_drops N u v B = some (1, B2) ∧ EDR wo u E Q A B A2 B2 Q2 ∧ Q2 0 (lo8 v) = Q 0 (lo8 v) + 1 ∧ ∀ x, x ≠ lo8 v → Q2 0 x = Q 0 x := by
  have hwo := lW_le hw
  have hu' := lU_le hu
  have W := gr_W hGA wo hw
  have U := gr_U hGB u hu
  have hW' := hW
  obtain ⟨w1, w2, w3, w4, w5, w6, w7⟩ := hW
  have l8 : lo8 v < 256 := lo8_lt
  have eB : F_MWorld_drops N u v B = F_MWorld_drops N u v B := rfl
  conv at eB => rhs; unfold F_MWorld_drops
  rw [ck_t (US U), bC_t (ev_malive U w2)] at eB
  rw [if_pos a, if_neg (show ¬ (1 : Int32) = 0 by decide), rf_t (UP_5 U), ar_t (UA_5 U), lo8_e] at eB
  generalize hqv : lo8 v = q at *
  have W2 : isW (A.sD (wo + 2) q (-1)) wo := W
  have U2 : isU (B.sD (u + 2) q 0) u := U
  have U3 : isU ((B.sD (u + 2) q 0).sD (u + 3) q 0) u := U
  have eA : F_World_remove N wo (nI q) A = some ((), (A.sD (wo + 2) q (-1)).sD (wo + 1) q (nI (Q 0 q + 1))) := by
    unfold F_World_remove
    rw [ck_t (WS W), rf_t (WP_8 W), ar_t (WA_8 W), wrI l8 (by decide), rf_t (WP_7 W2), ar_t (WA_7 W2), rdI l8 (by decide), rdw (by omega), (w1 q l8).1, nI_1, wrI l8 (by decide)]
  rw [wrI l8 (by decide), show vp_nar .boolean (0 : Int32) = (0 : Int32) from rfl, rf_t (UP_6 U2), ar_t (UA_6 U2), wrI l8 (by decide), rf_t (UP_4 U3), ar_t (UA_4 U3), rdI l8 (by decide), rdw (by omega), rdw (by omega), (w2 q l8).1, nI_1, wrI l8 (by decide)] at eB
  have dA : ∀ a f, a ≠ wo + 1 → a ≠ wo + 2 → ((A.sD (wo + 2) q (-1)).sD (wo + 1) q (nI (Q 0 q + 1))).D a f = A.D a f := fun a f y1 y2 => by rw [rdw y1, rdw y2]
  have dB : ∀ a f, a ≠ u + 1 → a ≠ u + 2 → a ≠ u + 3 → (((B.sD (u + 2) q 0).sD (u + 3) q 0).sD (u + 1) q (nI (Q 0 q + 1))).D a f = B.D a f := fun a f y1 y2 y3 => by rw [rdw y1, rdw y3, rdw y2]
  have o0 : ∀ x, x ≠ q → upR (upR Q 1 q 0) 0 q (Q 0 q + 1) 0 x = Q 0 x := fun x y => by rw [upR_n y, upR_o (by decide)]
  have s0 : upR (upR Q 1 q 0) 0 q (Q 0 q + 1) 0 q = Q 0 q + 1 := upR_s
  have o1 : ∀ x, x ≠ q → upR (upR Q 1 q 0) 0 q (Q 0 q + 1) 1 x = Q 1 x := fun x y => by rw [upR_o (by decide), upR_n y]
  have s1 : upR (upR Q 1 q 0) 0 q (Q 0 q + 1) 1 q = 0 := by rw [upR_o (by decide), upR_s]
  have o2 : ∀ x, x ≠ 0 → x ≠ 1 → upR (upR Q 1 q 0) 0 q (Q 0 q + 1) x = Q x := fun x y1 y2 => by rw [upR_o y1, upR_o y2]
  generalize upR (upR Q 1 q 0) 0 q (Q 0 q + 1) = Q2 at o0 s0 o1 s1 o2
  refine ⟨_, _, Q2, eA, eB, ⟨same.sD (same.sD same.rf (.inr (by omega))) (.inr (by omega)), same.sD (same.sD (same.sD same.rf (.inr (by omega))) (.inr (by omega))) (.inr (by omega)), ?_, fun cc => cc.fr (fun x c m y1 y2 y3 y4 y5 => by
    have y : x ≠ q := fun z => by rw [z, s1] at y2; exact absurd y2 (by decide)
    rw [o1 x y] at y2
    rw [o2 2 (by decide) (by decide)] at y3
    exact .inl ⟨y2, y3, dB _ _ (by omega) (by omega) (by omega)⟩) (by rw [o2 5 (by decide) (by decide)]) (fun a f y => dB _ _ (by omega) (by omega) (by omega))⟩, s0, o0⟩
  · unfold WRL PPL PPB
    rw [o2 2 (by decide) (by decide), o2 5 (by decide) (by decide)]
    refine ⟨fun x hx => ?_, fun x hx => ?_, fun x c m y1 y2 y3 y4 => ?_, ⟨by rw [dA _ _ (by omega) (by omega)]; exact w4.1, w4.2⟩, ⟨by rw [dA _ _ (by omega) (by omega)]; exact w5.1, w5.2.1, fun x y1 y2 => ?_⟩, ⟨by rw [dA _ _ (by omega) (by omega)]; exact w6.1, by rw [dB _ _ (by omega) (by omega) (by omega)]; exact w6.2.1, w6.2.2.1, fun k hk => ?_⟩, by rw [dA _ _ (by omega) (by omega)]; exact w7.1, by rw [dB _ _ (by omega) (by omega) (by omega)]; exact w7.2.1, w7.2.2.1, fun k hk => by rw [dA _ _ (by omega) (by omega), dB _ _ (by omega) (by omega) (by omega)]; exact w7.2.2.2 k hk⟩
    · obtain ⟨p1, p2, p3, p4⟩ := w1 x hx
      by_cases y : x = q
      · subst y
        rw [s0, s1]
        refine ⟨rds, hg, p3, ?_⟩
        rw [rdw (by omega), rds, if_neg (by decide)]
      · rw [o0 x y, o1 x y, rdf y, rdw (by omega), rdw (by omega), rdf y]
        exact ⟨p1, p2, p3, p4⟩
    · obtain ⟨p1, p2, p3, p4, p5⟩ := w2 x hx
      by_cases y : x = q
      · subst y
        rw [s0, s1]
        refine ⟨rds, hg, p3, ?_, fun z => absurd z (by decide)⟩
        rw [rdw (by omega), rdw (by omega), rds, if_neg (by decide)]
      · rw [o0 x y, o1 x y, rdf y, rdw (by omega), rdw (by omega), rdw (by omega), rdw (by omega), rdf y, rdw (by omega), rdf y, rdw (by omega)]
        exact ⟨p1, p2, p3, p4, p5⟩
    · have y : x ≠ q := fun z => by rw [z, s1] at y2; exact absurd y2 (by decide)
      rw [o1 x y] at y2
      rw [dA _ _ (by omega) (by omega), dB _ _ (by omega) (by omega) (by omega)]
      exact w3 x c m y1 y2 y3 y4
    · by_cases y : x = q
      · rw [y, s1]; decide
      · rw [o1 x y]; exact w5.2.2 x y1 y2
    · rw [dA _ _ (by omega) (by omega), dA _ _ (by omega) (by omega), dA _ _ (by omega) (by omega), dB _ _ (by omega) (by omega) (by omega), dB _ _ (by omega) (by omega) (by omega), dB _ _ (by omega) (by omega) (by omega)]
      obtain ⟨m0, m1, m2, m3⟩ := w6.2.2.2 k hk
      exact ⟨m0, m1, m2, fun e q y1 y2 y3 => by rw [dA _ _ (by omega) (by omega), dB _ _ (by omega) (by omega) (by omega)]; exact m3 e q y1 y2 y3⟩
theorem tk_co {A B : Hp} {v : Int32} {c : Nat} (hGA : Gr A) (hGB : Gr B) (hw : wo ∈ lW) (hu : u ∈ lU) (hW : WRL A wo B u E Q) (c16 : c < 16) (a : liv Q v) (b : Q 2 (lo8 v) / 2 ^ c % 2 = 1) : ∃ A2 B2 Q2, F_World_takeAt N wo (nI (lo8 v)) (nI c) A = some ((), A2) ∧ F_MWorld_takes N u v (nI c) B = some (1, B2) ∧ EDR wo u E Q A B A2 B2 Q2 ∧ Q2 0 = Q 0 := by
  have hwo := lW_le hw
  have hu' := lU_le hu
  have W := gr_W hGA wo hw
  have U := gr_U hGB u hu
  have hW' := hW
  obtain ⟨w1, w2, w3, w4, w5, w6, w7⟩ := hW
  have l8 : lo8 v < 256 := lo8_lt
  have aq := a.1
  obtain ⟨p1, p2, p3, p4⟩ := w1 (lo8 v) l8
  have p5 := (w2 (lo8 v) l8).2.2.2.2 aq
  rw [if_pos aq] at p4
  have msk : nI (Q 2 (lo8 v)) &&& (((1 : Int32) <<< (nI c &&& 31)) ^^^ ((-1) : Int32)) = nI (Q 2 (lo8 v) &&& (2 ^ c ^^^ 4294967295)) := by
    rw [nI_shl (by omega), nI_xm, nI_and _ _ (by omega)]
  have eA : F_World_takeAt N wo (nI (lo8 v)) (nI c) A = some ((), A.sD (wo + 2) (lo8 v) (nI (Q 2 (lo8 v) &&& (2 ^ c ^^^ 4294967295)))) := by
    unfold F_World_takeAt
    rw [ck_t (WS W), rf_t (WP_8 W), ar_t (WA_8 W), rdI l8 (by decide), p4, msk, wrI l8 (by decide)]
  have eB : F_MWorld_takes N u v (nI c) B = some (1, B.sD (u + 3) (lo8 v) (nI (Q 2 (lo8 v) &&& (2 ^ c ^^^ 4294967295)))) := by
    unfold F_MWorld_takes
    rw [ck_t (US U), bC_t (ev_mhas U w2 c16), if_pos (show liv Q v ∧ Q 2 (lo8 v) / 2 ^ c % 2 = 1 from ⟨a, b⟩), if_neg (show ¬ (1 : Int32) = 0 by decide), rf_t (UP_6 U), ar_t (UA_6 U), lo8_e, rdI l8 (by decide), p5, msk, wrI l8 (by decide)]
  have nb : Q 2 (lo8 v) &&& (2 ^ c ^^^ 4294967295) < 65536 := and_lt p3
  have sub : ∀ c2, (Q 2 (lo8 v) &&& (2 ^ c ^^^ 4294967295)) / 2 ^ c2 % 2 = 1 → Q 2 (lo8 v) / 2 ^ c2 % 2 = 1 := fun c2 y => by
    rw [bit_d, Nat.testBit_and, Bool.and_eq_true] at y
    exact bit_d.mpr y.1
  generalize Q 2 (lo8 v) &&& (2 ^ c ^^^ 4294967295) = nbv at eA eB nb sub
  generalize lo8 v = q at *
  have o2 : ∀ x, x ≠ q → upR Q 2 q nbv 2 x = Q 2 x := fun x y => upR_n y
  have s2 : upR Q 2 q nbv 2 q = nbv := upR_s
  have o : ∀ x, x ≠ 2 → upR Q 2 q nbv x = Q x := fun x y => upR_o y
  generalize upR Q 2 q nbv = Q2 at o2 s2 o
  refine ⟨_, _, Q2, eA, eB, ⟨same.sD same.rf (.inr (by omega)), same.sD same.rf (.inr (by omega)), ?_, fun cc => cc.fr (fun x c m y1 y2 y3 y4 y5 => by
    rw [o 1 (by decide)] at y2
    refine .inl ⟨y2, ?_, rdw (by omega)⟩
    by_cases y : x = q
    · rw [y, s2] at y3
      rw [y]
      exact sub c y3
    · rw [o2 x y] at y3
      exact y3) (by rw [o 5 (by decide)]) (fun a f y => rdw (by omega))⟩, o 0 (by decide)⟩
  unfold WRL PPL PPB
  rw [o 0 (by decide), o 1 (by decide), o 5 (by decide)]
  refine ⟨fun x hx => ?_, fun x hx => ?_, fun x c m y1 y2 y3 y4 => ?_, ⟨by rw [rdw (by omega)]; exact w4.1, w4.2⟩, ⟨by rw [rdw (by omega)]; exact w5.1, w5.2⟩, ⟨by rw [rdw (by omega)]; exact w6.1, by rw [rdw (by omega)]; exact w6.2.1, w6.2.2.1, fun k hk => ?_⟩, by rw [rdw (by omega)]; exact w7.1, by rw [rdw (by omega)]; exact w7.2.1, w7.2.2.1, fun k hk => by rw [rdw (by omega), rdw (by omega)]; exact w7.2.2.2 k hk⟩
  · obtain ⟨r1, r2, r3, r4⟩ := w1 x hx
    rw [rdw (by omega)]
    by_cases y : x = q
    · subst y
      rw [s2, rds, if_pos aq]
      exact ⟨r1, r2, nb, rfl⟩
    · rw [o2 x y, rdf y]
      exact ⟨r1, r2, r3, r4⟩
  · obtain ⟨r1, r2, r3, r4, r5⟩ := w2 x hx
    rw [rdw (by omega), rdw (by omega)]
    by_cases y : x = q
    · subst y
      rw [s2, rds]
      exact ⟨r1, r2, nb, r4, fun _ => rfl⟩
    · rw [o2 x y, rdf y]
      exact ⟨r1, r2, r3, r4, r5⟩
  · rw [rdw (by omega), rdw (by omega)]
    refine w3 x c m y1 y2 ?_ y4
    by_cases y : x = q
    · rw [y, s2] at y3
      rw [y]
      exact sub c y3
    · rw [o2 x y] at y3
      exact y3
  · rw [rdw (by omega), rdw (by omega), rdw (by omega), rdw (by omega), rdw (by omega), rdw (by omega)]
    obtain ⟨m0, m1, m2, m3⟩ := w6.2.2.2 k hk
    exact ⟨m0, m1, m2, fun e q y1 y2 y3 => by rw [rdw (by omega), rdw (by omega)]; exact m3 e q y1 y2 y3⟩
theorem gv_co {A B : Hp} {v : Int32} {c : Nat} (hN : 300 ≤ N) (hE : WE E) (hGA : Gr A) (hGB : Gr B) (hw : wo ∈ lW) (hu : u ∈ lU) (t1 : p = 133 ∨ p = 325) (t2 : w ∈ lT) (t5 : ∀ c, c ≤ E 4 0 → A.D (p + 137) c = nI (E 5 c)) (t6 : ∀ m, m < E 5 (E 4 0) → A.D (p + 89 + m) 3 = nI (E 6 m)) (t7 : (∀ c, c ≤ E 4 0 → B.D (w + 12) c = nI (E 5 c)) ∧ (∀ m, m < E 5 (E 4 0) → B.D (w + 13) m = nI (E 6 m))) (hW : WRL A wo B u E Q) (hc : c < E 4 0) (a : liv Q v) (b : ¬ Q 2 (lo8 v) / 2 ^ c % 2 = 1) : ∃ A2 B2 Q2, F_World_giveAt N wo p (nI (lo8 v)) (nI c) A = some ((), A2) ∧ F_MWorld_gives N u w v (nI c) B = some (1, B2) ∧ EDR wo u E Q A B A2 B2 Q2 ∧ Q2 0 = Q 0 := by
  have hwo := lW_le hw
  have hu' := lU_le hu
  have W := gr_W hGA wo hw
  have U := gr_U hGB u hu
  have hW' := hW
  obtain ⟨w1, w2, w3, w4, w5, w6, w7⟩ := hW
  have l8 : lo8 v < 256 := lo8_lt
  have hT' := lT_le t2
  have hP := gr_P hGA t1
  have T := gr_T hGB w t2
  have c16 : c < 16 := by have := hE.1; omega
  have e3 := hE.2.2.1 c hc
  have e4 := hE.2.2.2.1
  have aq := a.1
  obtain ⟨p1, p2, p3, p4⟩ := w1 (lo8 v) l8
  have p5 := (w2 (lo8 v) l8).2.2.2.2 aq
  rw [if_pos aq] at p4
  have msk : nI (Q 2 (lo8 v)) ||| ((1 : Int32) <<< (nI c &&& 31)) = nI (Q 2 (lo8 v) ||| 2 ^ c) := by
    rw [nI_shl (by omega), nI_or]
  have nb : Q 2 (lo8 v) ||| 2 ^ c < 65536 := Nat.or_lt_two_pow (n := 16) p3 (Nat.pow_lt_pow_right (by decide) c16)
  have sub : ∀ c2, c2 ≠ c → (Q 2 (lo8 v) ||| 2 ^ c) / 2 ^ c2 % 2 = 1 → Q 2 (lo8 v) / 2 ^ c2 % 2 = 1 := fun c2 y0 y => by
    rw [bit_d, Nat.testBit_or, Nat.testBit_two_pow_of_ne (fun y => y0 y.symm), Bool.or_false] at y
    exact bit_d.mpr y
  obtain ⟨A2, r1, r2, r3⟩ := ev_giv (N := N) hE hc l8 w4.2.1 (show wo + 5 < p by omega) (E 5 (c + 1) - E 5 c) N (E 5 c) (A.sD (wo + 2) (lo8 v) (nI (Q 2 (lo8 v) ||| 2 ^ c))) (by omega) (by omega) W hP (by rw [rdw (by omega)]; exact w4.1) (by rw [rdw (by omega)]; exact t5 (c + 1) (by omega)) (fun m hm => by rw [rdw (by omega)]; exact t6 m hm)
  obtain ⟨B2, s1, s2, s3⟩ := ev_gvs (N := N) (v := v) hE hc (show w + 30 < u by omega) (E 5 (c + 1) - E 5 c) N (E 5 c) (B.sD (u + 3) (lo8 v) (nI (Q 2 (lo8 v) ||| 2 ^ c))) (by omega) (by omega) U T (by rw [rdw (by omega)]; exact t7.1 (c + 1) (by omega)) (fun m hm => by rw [rdw (by omega)]; exact t7.2 m hm)
  have hP2 : isP (A.sD (wo + 2) (lo8 v) (nI (Q 2 (lo8 v) ||| 2 ^ c))) p := hP
  have T2 : isT (B.sD (u + 3) (lo8 v) (nI (Q 2 (lo8 v) ||| 2 ^ c))) w := T
  have eA : F_World_giveAt N wo p (nI (lo8 v)) (nI c) A = some ((), A2) := by
    unfold F_World_giveAt
    rw [ck_t (WS W), rf_t (WP_8 W), ar_t (WA_8 W), rdI l8 (by decide), p4, msk, wrI l8 (by decide), ck_t (PrS hP2), rf_t (PrP_2 hP2), ck_t (PrA_2 hP2), rf_t (PcP_2 hP2), ar_t (PcA_2 hP2), rdI (show c < 17 by omega) (by decide), rdw (by omega), t5 c (by omega), r1]
  have eB : F_MWorld_gives N u w v (nI c) B = some (1, B2) := by
    unfold F_MWorld_gives
    rw [ck_t (US U), bC_t (ev_malive U w2), if_pos a, if_neg (show ¬ (1 : Int32) = 0 by decide), bC_t (ev_mhas U w2 c16), if_neg (show ¬ (liv Q v ∧ Q 2 (lo8 v) / 2 ^ c % 2 = 1) from fun y => b y.2), if_pos rfl, rf_t (UP_6 U), ar_t (UA_6 U), lo8_e, rdI l8 (by decide), p5, msk, wrI l8 (by decide), ck_t (TS T2), rf_t (TP_18 T2), ar_t (TA_18 T2), rdI (show c < 17 by omega) (by decide), rdw (by omega), t7.1 c (by omega), s1]
  generalize Q 2 (lo8 v) ||| 2 ^ c = nbv at *
  generalize lo8 v = q at *
  have dA : ∀ x f, ¬ (x = wo + 2 ∧ f = q) → ¬ (x = wo + 3 ∧ q * Q 5 0 + E 5 c ≤ f ∧ f < q * Q 5 0 + E 5 (c + 1)) → A2.D x f = A.D x f := fun x f y1 y2 => by
    rw [r2.1 _ _ y2]
    by_cases y : x = wo + 2
    · rw [y, rdf (fun z => y1 ⟨y, z⟩)]
    · rw [rdw y]
  have dB : ∀ x f, ¬ (x = u + 3 ∧ f = q) → ¬ (x = u + 4 ∧ 48 * q + E 5 c ≤ f ∧ f < 48 * q + E 5 (c + 1)) → B2.D x f = B.D x f := fun x f y1 y2 => by
    rw [s2.1 _ _ y2]
    by_cases y : x = u + 3
    · rw [y, rdf (fun z => y1 ⟨y, z⟩)]
    · rw [rdw y]
  have qA : A2.D (wo + 2) q = nI nbv := by rw [r2.1 _ _ (by omega), rds]
  have qB : B2.D (u + 3) q = nI nbv := by rw [s2.1 _ _ (by omega), rds]
  have o2 : ∀ x, x ≠ q → upR Q 2 q nbv 2 x = Q 2 x := fun x y => upR_n y
  have z2 : upR Q 2 q nbv 2 q = nbv := upR_s
  have o : ∀ x, x ≠ 2 → upR Q 2 q nbv x = Q x := fun x y => upR_o y
  generalize upR Q 2 q nbv = Q2 at o2 z2 o
  refine ⟨A2, B2, Q2, eA, eB, ⟨((same.rf (H := A)).sD (.inr (by omega))).tr (r2.mono fun a f y => .inr (by omega)), ((same.rf (H := B)).sD (.inr (by omega))).tr (s2.mono fun a f y => .inr (by omega)), ?_, fun cc => cc.fr (fun x c2 m y1 y2 y3 y4 y5 => by
    have m2l := (mOf_lt hE y4).2.1
    rw [o 1 (by decide)] at y2
    by_cases y : x = q
    · by_cases ym : E 5 c ≤ m ∧ m < E 5 (c + 1)
      · rw [y, s3 m ym.1 ym.2, y5]
        exact .inr cc.1
      · rw [y, z2] at y3
        have cn : c2 ≠ c := fun z => ym (by rw [← z]; exact ⟨y4.2.1, y4.2.2⟩)
        exact .inl ⟨y2, by rw [y]; exact sub c2 cn y3, dB _ _ (by omega) (by omega)⟩
    · rw [o2 x y] at y3
      exact .inl ⟨y2, y3, dB _ _ (by omega) (by omega)⟩) (by rw [o 5 (by decide)]) (fun a f y => dB _ _ (by omega) (by omega))⟩, o 0 (by decide)⟩
  unfold WRL PPL PPB
  rw [o 0 (by decide), o 1 (by decide), o 5 (by decide)]
  refine ⟨fun x hx => ?_, fun x hx => ?_, fun x c2 m y1 y2 y3 y4 => ?_, ⟨by rw [dA _ _ (by omega) (by omega)]; exact w4.1, w4.2⟩, ⟨by rw [dA _ _ (by omega) (by omega)]; exact w5.1, w5.2⟩, ⟨by rw [dA _ _ (by omega) (by omega)]; exact w6.1, by rw [dB _ _ (by omega) (by omega)]; exact w6.2.1, w6.2.2.1, fun k hk => ?_⟩, by rw [dA _ _ (by omega) (by omega)]; exact w7.1, by rw [dB _ _ (by omega) (by omega)]; exact w7.2.1, w7.2.2.1, fun k hk => by rw [dA _ _ (by omega) (by omega), dB _ _ (by omega) (by omega)]; exact w7.2.2.2 k hk⟩
  · obtain ⟨k1, k2, k3, k4⟩ := w1 x hx
    rw [dA (wo + 1) _ (by omega) (by omega)]
    by_cases y : x = q
    · subst y
      rw [z2, qA, if_pos aq]
      exact ⟨k1, k2, nb, rfl⟩
    · rw [o2 x y, dA _ _ (by omega) (by omega)]
      exact ⟨k1, k2, k3, k4⟩
  · obtain ⟨k1, k2, k3, k4, k5⟩ := w2 x hx
    rw [dB (u + 1) _ (by omega) (by omega), dB (u + 2) _ (by omega) (by omega)]
    by_cases y : x = q
    · subst y
      rw [z2, qB]
      exact ⟨k1, k2, nb, k4, fun _ => rfl⟩
    · rw [o2 x y, dB _ _ (by omega) (by omega)]
      exact ⟨k1, k2, k3, k4, k5⟩
  · have m2l := (mOf_lt hE y4).2.1
    have wd := w4.2.2 c2 m y4
    by_cases y : x = q
    · by_cases ym : E 5 c ≤ m ∧ m < E 5 (c + 1)
      · rw [y, r3 m ym.1 ym.2, s3 m ym.1 ym.2]
      · rw [y, z2] at y3
        have cn : c2 ≠ c := fun z => ym (by rw [← z]; exact ⟨y4.2.1, y4.2.2⟩)
        rw [dA _ _ (by omega) (by rw [y]; omega), dB _ _ (by omega) (by omega)]
        exact w3 x c2 m y1 y2 (by rw [y]; exact sub c2 cn y3) y4
    · rw [o2 x y] at y3
      have nA : ¬ (q * Q 5 0 + E 5 c ≤ x * Q 5 0 + m ∧ x * Q 5 0 + m < q * Q 5 0 + E 5 (c + 1)) := fun z => by
        have w50 := w4.2.2 c (E 5 (c + 1) - 1) ⟨hc, by omega, by omega⟩
        have zz : x * Q 5 0 + m = q * Q 5 0 + (x * Q 5 0 + m - q * Q 5 0) := by omega
        exact y (ix_inj zz (by omega) wd).1
      rw [dA _ _ (by omega) (fun z => nA z.2), dB _ _ (by omega) (by omega)]
      exact w3 x c2 m y1 y2 y3 y4
  · rw [dA _ _ (by omega) (by omega), dA _ _ (by omega) (by omega), dA _ _ (by omega) (by omega), dB _ _ (by omega) (by omega), dB _ _ (by omega) (by omega), dB _ _ (by omega) (by omega)]
    obtain ⟨m0, m1, m2, m3⟩ := w6.2.2.2 k hk
    exact ⟨m0, m1, m2, fun e q y1 y2 y3 => by rw [dA _ _ (by omega) (by omega), dB _ _ (by omega) (by omega)]; exact m3 e q y1 y2 y3⟩
theorem mk_co {A B : Hp} {Pv : Nat → Nat → Int32} {fb : Nat} (hPv : PVN E Pv) (hN : 300 ≤ N) (hE : WE E) (hGA : Gr A) (hGB : Gr B) (hw : wo ∈ lW) (hu : u ∈ lU) (t1 : p = 133 ∨ p = 325) (t2 : w ∈ lT) (t8 : EA4 A p E Pv) (t9 : EB4 B w E Pv) (hW : WRL A wo B u E Q) (hfb : fb < E 15 0) : (∃ q, q < 256 ∧ ∃ A2 B2 Q2, F_World_bear N wo p (nI fb) A = some (nI q, A2) ∧ F_MWorld_spawns N u w (nI fb) B = some (nI q, B2) ∧ EDR wo u E Q A B A2 B2 Q2 ∧ Q2 0 = Q 0) ∨ (F_World_bear N wo p (nI fb) A = some (-1, A) ∧ F_MWorld_spawns N u w (nI fb) B = some (-1, B)) := by
  have hwo := lW_le hw
  have hu' := lU_le hu
  have W := gr_W hGA wo hw
  have U := gr_U hGB u hu
  have hW' := hW
  obtain ⟨w1, w2, w3, w4, w5, w6, w7⟩ := hW
  have hT' := lT_le t2
  have hP := gr_P hGA t1
  have T := gr_T hGB w t2
  have f16 : fb < 16 := by
    have := hE.2.2.2.2.2.2.2.2.2.1
    omega
  have fbt := hE.2.2.2.2.2.2.2.2.2.2.1 fb hfb
  obtain ⟨q, q1, q2, q3⟩ := free_p Q 256
  have bA : F_World_bear N wo p (nI fb) A = B_World_bear_24 N wo p (nI fb) (nI q) A := ev_bea W w1 q1 q2 q3 q N 0 (by omega) (by omega)
  have bB : F_MWorld_spawns N u w (nI fb) B = B_MWorld_spawns_24 N u w (nI fb) (nI q) B := ev_spn U w2 q1 q2 q3 q N 0 (by omega) (by omega)
  by_cases y : q < 256
  · obtain ⟨A2, a1, a2, a3, a4, a5⟩ := ev_bear (N := N) (p := p) W hP (by omega) y f16 w4.2.1 w4.1 w5.1 w5.2.1 (t8.2 fb hfb).1
    obtain ⟨B2, b1, b2, b3, b4, b5⟩ := ev_spaw (N := N) (w := w) hN U T (by omega) y f16 (t9.2 fb hfb).1
    have eA := bA.trans a1
    have eB := bB.trans b1
    have dA : ∀ x f, ¬ BEA wo q (Q 5 0) x f → A2.D x f = A.D x f := fun x f z => by
      exact a2.1 _ _ z
    have dB : ∀ x f, ¬ BEB u q x f → B2.D x f = B.D x f := fun x f z => by
      exact b2.1 _ _ z
    have a3' : A2.D (wo + 2) q = nI (E 16 fb) := a3
    have a4' : A2.D wo 9 = nI (if Q 5 1 < q + 1 then q + 1 else Q 5 1) := a4
    have b3' : B2.D (u + 2) q = 1 := b3
    have b4' : B2.D (u + 3) q = nI (E 16 fb) := b4
    have tp1 : Q 5 1 ≤ (if Q 5 1 < q + 1 then q + 1 else Q 5 1) ∧ q + 1 ≤ (if Q 5 1 < q + 1 then q + 1 else Q 5 1) ∧ (if Q 5 1 < q + 1 then q + 1 else Q 5 1) ≤ 256 := by
      have := w5.2.1
      split <;> omega
    generalize (if Q 5 1 < q + 1 then q + 1 else Q 5 1) = tp at a4' tp1
    have o0 : ∀ x, x ≠ 1 → x ≠ 2 → x ≠ 5 → upR (upR (upR Q 1 q 1) 2 q (E 16 fb)) 5 1 tp x = Q x := fun x z1 z2 z5 => by rw [upR_o z5, upR_o z2, upR_o z1]
    have o1 : ∀ x, x ≠ q → upR (upR (upR Q 1 q 1) 2 q (E 16 fb)) 5 1 tp 1 x = Q 1 x := fun x z => by rw [upR_o (by decide), upR_o (by decide), upR_n z]
    have s1 : upR (upR (upR Q 1 q 1) 2 q (E 16 fb)) 5 1 tp 1 q = 1 := by rw [upR_o (by decide), upR_o (by decide), upR_s]
    have o2 : ∀ x, x ≠ q → upR (upR (upR Q 1 q 1) 2 q (E 16 fb)) 5 1 tp 2 x = Q 2 x := fun x z => by rw [upR_o (by decide), upR_n z, upR_o (by decide)]
    have s2 : upR (upR (upR Q 1 q 1) 2 q (E 16 fb)) 5 1 tp 2 q = E 16 fb := by rw [upR_o (by decide), upR_s]
    have o5 : ∀ x, x ≠ 1 → upR (upR (upR Q 1 q 1) 2 q (E 16 fb)) 5 1 tp 5 x = Q 5 x := fun x z => by rw [upR_n z, upR_o (by decide), upR_o (by decide)]
    have s5 : upR (upR (upR Q 1 q 1) 2 q (E 16 fb)) 5 1 tp 5 1 = tp := upR_s
    generalize upR (upR (upR Q 1 q 1) 2 q (E 16 fb)) 5 1 tp = Q2 at o0 o1 s1 o2 s2 o5 s5
    have sA : same (WCA wo) A A2 := (a2.mono fun a f y => by unfold BEA at y; unfold WCA; omega)
    have sB : same (WCB u) B B2 := (b2.mono fun a f y => by unfold BEB at y; unfold WCB; omega)
    refine .inl ⟨q, y, A2, B2, Q2, eA, eB, ⟨sA, sB, ?_, fun cc => cc.fr (fun x c2 m y1 y2 y3 y4 y5 => by
      have m2l := (mOf_lt hE y4).2.1
      by_cases y : x = q
      · rw [y, s2] at y3
        rw [y]
        right
        rw [b5 m m2l, (t9.2 fb hfb).2 c2 m y4 y3, hPv fb c2 m hfb y4 y3 y5]
        exact cc.1
      · rw [o2 x y] at y3
        rw [o1 x y] at y2
        exact .inl ⟨y2, y3, dB _ _ (by unfold BEB; omega)⟩) (o5 2 (by decide)) (fun a f y => dB _ _ (by unfold BEB; omega))⟩, o0 0 (by decide) (by decide) (by decide)⟩
    unfold WRL PPL PPB
    rw [o0 0 (by decide) (by decide) (by decide), o5 0 (by decide), s5, o5 2 (by decide), o5 3 (by decide)]
    unfold BEA at dA
    unfold BEB at dB
    refine ⟨fun x hx => ?_, fun x hx => ?_, fun x c2 m y1 y2 y3 y4 => ?_, ⟨by rw [dA _ _ (by omega)]; exact w4.1, w4.2⟩, ⟨a4', tp1.2.2, fun x z1 z2 => by rw [o1 x (by omega)]; exact w5.2.2 x (by omega) z2⟩, ⟨by rw [dA _ _ (by omega)]; exact w6.1, by rw [dB _ _ (by omega)]; exact w6.2.1, w6.2.2.1, fun k hk => ?_⟩, by rw [dA _ _ (by omega)]; exact w7.1, by rw [dB _ _ (by omega)]; exact w7.2.1, w7.2.2.1, fun k hk => by rw [dA _ _ (by omega), dB _ _ (by omega)]; exact w7.2.2.2 k hk⟩
    · obtain ⟨k1, k2, k3, k4⟩ := w1 x hx
      rw [dA (wo + 1) _ (by omega)]
      by_cases y : x = q
      · subst y
        rw [s1, s2, a3', if_pos rfl]
        exact ⟨k1, k2, fbt, rfl⟩
      · rw [o1 x y, o2 x y, dA _ _ (by omega)]
        exact ⟨k1, k2, k3, k4⟩
    · obtain ⟨k1, k2, k3, k4, k5⟩ := w2 x hx
      rw [dB (u + 1) _ (by omega)]
      by_cases y : x = q
      · subst y
        rw [s1, s2, b3', b4', if_pos rfl]
        exact ⟨k1, k2, fbt, rfl, fun _ => rfl⟩
      · rw [o1 x y, o2 x y, dB _ _ (by omega), dB _ _ (by omega)]
        exact ⟨k1, k2, k3, k4, k5⟩
    · have m2l := (mOf_lt hE y4).2.1
      have wd := w4.2.2 c2 m y4
      by_cases y : x = q
      · rw [y, s2] at y3
        rw [y]
        rw [a5 m wd, b5 m m2l, (t8.2 fb hfb).2 c2 m y4 y3, (t9.2 fb hfb).2 c2 m y4 y3]
      · rw [o2 x y] at y3
        rw [o1 x y] at y2
        have nA : ¬ (q * Q 5 0 ≤ x * Q 5 0 + m ∧ x * Q 5 0 + m < q * Q 5 0 + Q 5 0) := fun z => by
          have zz : x * Q 5 0 + m = q * Q 5 0 + (x * Q 5 0 + m - q * Q 5 0) := by omega
          exact y (ix_inj zz (by omega) wd).1
        rw [dA _ _ (by omega), dB _ _ (by omega)]
        exact w3 x c2 m y1 y2 y3 y4
    · rw [dA _ _ (by omega), dA _ _ (by omega), dA _ _ (by omega), dB _ _ (by omega), dB _ _ (by omega), dB _ _ (by omega)]
      obtain ⟨m0, m1, m2, m3⟩ := w6.2.2.2 k hk
      exact ⟨m0, m1, m2, fun e q y1 y2 y3 => by rw [dA _ _ (by omega), dB _ _ (by omega)]; exact m3 e q y1 y2 y3⟩
  · have : q = 256 := by omega
    subst this
    unfold B_World_bear_24 at bA
    unfold B_MWorld_spawns_24 at bB
    rw [if_neg (by decide)] at bA
    rw [if_pos (by decide)] at bB
    exact .inr ⟨bA, bB⟩
end Par
