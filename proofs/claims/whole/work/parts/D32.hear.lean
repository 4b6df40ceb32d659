/-! ===== hear ===== -/
section Par
variable {N p w T : Nat} {L : List (Nat × Nat × Int32 × Bool × Nat)} {g : Nat → Nat} {E : Nat → Nat → Nat} {Nm : Nat → Nat → List Nat} {Pv : Nat → Nat → Int32} {nL lc dp : Nat} {ln : Nat → List Nat} {lk lf : Nat → Nat} {hd : Nat → Int32}
theorem JB.hup {B : Hp} {i e hm : Nat} (h : (JB w T L g E Nm Pv nL lc dp ln lk lf hd i B)) (he : e < 8) (m1 : hm < 256) (m3 : ∀ x, x < 8 → (hm / 2 ^ x % 2 = 1 ↔ ∃ l, l < lc ∧ hd l = nI x)) : (JB w T L g E Nm Pv nL (lc + 1) dp ln lk lf (uph hd lc (nI e)) i (B.sD w 42 (nI (hm ||| 2 ^ e)))) := by
  obtain ⟨⟨t1, t2, t3, t4, t5, t6⟩, e0, b1, b2, b3, b4⟩ := h
  refine ⟨⟨t1.sD (by omega) (by omega), fun j hj => ?_, by rw [rdf (by decide)]; exact t3, by rw [rdf (by decide)]; exact t4, t5, t6⟩, e0.ex (same.rf.sD (by unfold SRo; omega)), by rw [rdf (by decide)]; exact b1, by rw [rdf (by decide)]; exact b2, ⟨hm ||| 2 ^ e, ?_, rds, fun x hx => ?_⟩, fun k hk => ?_⟩
  · rw [rdw (by omega), rdw (by omega), rdw (by omega), rdw (by omega), rdw (by omega)]
    exact t2 j hj
  · have h2 : 2 ^ e < 2 ^ 8 := Nat.pow_lt_pow_right (by decide) he
    exact Nat.or_lt_two_pow (n := 8) m1 h2
  · rw [bit_tb, Nat.testBit_or, Bool.or_eq_true, ← bit_tb, m3 x hx, Nat.testBit_two_pow, decide_eq_true_iff]
    constructor
    · rintro (⟨l, l1, l2⟩ | rfl)
      · exact ⟨l, by omega, by rw [uph_o (by omega)]; exact l2⟩
      · exact ⟨lc, by omega, uph_s⟩
    · rintro ⟨l, l1, l2⟩
      by_cases z : l = lc
      · rw [z, uph_s] at l2
        exact Or.inr ((nI_eq (by omega) (by omega)).mp l2)
      · rw [uph_o z] at l2
        exact Or.inl ⟨l, by omega, l2⟩
  · obtain ⟨⟨u, u1, u2⟩, u3, u4⟩ := b4 k hk
    refine ⟨⟨u, by rw [rdw (by omega)]; exact u1, u2.ex ?_ ?_ ?_⟩, by rw [rdw (by omega)]; exact u3, by rw [rdw (by omega)]; exact u4⟩ <;> (funext z; rw [rdw (by omega)])
theorem JB.hdn {B : Hp} {i hm l2 : Nat} {h2 : Nat → Int32} (h : (JB w T L g E Nm Pv nL l2 dp ln lk lf h2 i B)) (m1 : hm < 256) (m3 : ∀ x, x < 8 → (hm / 2 ^ x % 2 = 1 ↔ ∃ l, l < lc ∧ hd l = nI x)) : (JB w T L g E Nm Pv nL lc dp ln lk lf hd i (B.sD w 42 (nI hm))) := by
  obtain ⟨⟨t1, t2, t3, t4, t5, t6⟩, e0, b1, b2, b3, b4⟩ := h
  refine ⟨⟨t1.sD (by omega) (by omega), fun j hj => ?_, by rw [rdf (by decide)]; exact t3, by rw [rdf (by decide)]; exact t4, t5, t6⟩, e0.ex (same.rf.sD (by unfold SRo; omega)), by rw [rdf (by decide)]; exact b1, by rw [rdf (by decide)]; exact b2, ⟨hm, m1, rds, m3⟩, fun k hk => ?_⟩
  · rw [rdw (by omega), rdw (by omega), rdw (by omega), rdw (by omega), rdw (by omega)]
    exact t2 j hj
  · obtain ⟨⟨u, u1, u2⟩, u3, u4⟩ := b4 k hk
    refine ⟨⟨u, by rw [rdw (by omega)]; exact u1, u2.ex ?_ ?_ ?_⟩, by rw [rdw (by omega)]; exact u3, by rw [rdw (by omega)]; exact u4⟩ <;> (funext z; rw [rdw (by omega)])
def hrR (N : Nat) (o : Orc_TextS) (p0 : Nat) (v6 : Int32) (H7 : Hp) : Option (Unit × Hp) :=
    bnd ((H7.D p0 42)) fun x8 =>
    bnd ((H7.D p0 42)) fun x9 =>
    bnd (H7.sD p0 42 (x9 ||| ((1 : Int32) <<< (v6 &&& 31)))) fun H10 =>
    bC (F_MText_block N o p0 H10) fun v12 H13 =>
    bnd (H13.sD p0 42 x8) fun H14 =>
    some ((), H14)
theorem jo_hear {A B : Hp} {i cs : Nat} {o : Orc_BodyS} {o' : Orc_TextS} (hZ : ZS w o') (hZn : ZN w T L g o') (ih : dp < 20 → IHB o o' p w T L g E Nm Pv (dp + 1)) (ha : (JA p T L g E Nm Pv nL lc dp ln lk lf hd i cs A)) (hb : (JB w T L g E Nm Pv nL lc dp ln lk lf hd i B)) (hC : (CX p E Nm nL lc dp ln lk lf hd)) (hcs : cs + 7 ≤ 2 * tkp L i) (hN : 7000 ≤ N) (q : tkk L i = 61) : (Out (SBo p (E 0 0)) (SRo w) w L i A B (F_Body_readStatement N o 9 A) (F_MText_statement N o' w B) (fun j _ A' _ B' => (PS p w T L g E Nm Pv nL lc dp ln lk lf hd i cs A B) j A' B')) := by
  have hp := hC.2.1
  have hG := ha.1.1.1
  have hnx := hb.1.gt (show 2 ≤ tkk L i by omega)
  have u0 := nx_pos2 hb.1 hnx (show 40 ≤ tkk L i by omega)
  have hA1 := ha.adv hC hnx
  have hB1 := hb.nx hnx
  have hG1 := hA1.1.1.1
  have hW := hC.1.2.2.2.2.2.2.2.2.2.2.2.2.2.2
  have h9 : E 9 0 ≤ 8 := hC.1.2.2.2.2.2.1
  have e : F_MText_hears N o' w (B.sD w 11 (nI (i + 1))) = bC (bC (F_MText_name N w (B.sD w 11 (nI (i + 1)))) (fun y H => F_MText_numberOf N w y (nI (1 + 2)) H)) (hrR N o' w) := by
    unfold F_MText_hears
    rw [ck_t (TS hB1.1.1.1), bC_as]
    rfl
  rw [sA_61 ha q, sB_61 hb q, e]
  unfold F_Body_readHear
  simp only [bT_u]
  rw [ck_t (rS_9 hG), rf_t (rP_9_0 hG), ck_t (rS_1 hG), bC_t (ev_advance ha.1 hnx)]
  refine Out.pre (Out.bind (show _ from jo_number (so := 1) hA1 hB1 hC hN (by decide)) ?_ ?_) (adv_ex.mono SL_SBo (Nat.le_refl _)) (same.rf.sD (by unfold SRo; omega)) (show i ≤ i + 1 by omega) hnx (by omega)
  rotate_left
  · intro y B' k p0 hz
    have z2 : Zf (B'.sD w 42 (B'.D w 42 ||| ((1 : Int32) <<< (y &&& 31)))) w k p0 := hz.sD (by omega)
    obtain ⟨B2, e1, e2, e3⟩ := fz_block (N := N) hZ z2
    exact ⟨(), B2.sD w 42 (B'.D w 42), by unfold hrR; rw [bnd_t, bnd_t, bnd_t, bC_t e1, bnd_t], e2.sD (by omega), (same.rf.sD (by unfold SRo; omega)).tr (e3.tr (same.rf.sD (by unfold SRo; omega)))⟩
  intro j v A2 y B2 hij hxa hsb hQ
  obtain ⟨rfl, q2, hA2, hB2, hco2, k, hk1, hk2, rfl, rfl, hBe⟩ := hQ
  have he : E 3 k < E 9 0 := (hW k hk1).2.2.2.1 hk2
  have hl2 := hB2.1.2.2.2.2.1
  have u1 : tkp L (i + 1) + 1 ≤ tkp L (i + 2) := nx_pos hb.1 (by omega)
  have hpj : tkp L (i + 2) ≤ 6000 := pos_j hB2.1
  obtain ⟨hm, m1, m2, m3⟩ := hB2.2.2.2.2.1
  have hA3 := hA2.add (v := 6) hC
  have hA4 := hA3.add (v := nI lc) hC
  have hA5 := hA4.add (v := 10) hC
  have hA6 := hA5.add (v := nI lc) hC
  have hA7 := hA6.add (v := nI (E 3 k)) hC
  have hA8 := hA7.add (v := 0) hC
  rw [rf_t hA2.2.2.1, ck_t (PrS (hA2.pP hC)), bC_t (ev_add hA2 (hA2.pP hC) (by omega)), rf_t hA3.2.2.1, bnd_t, hA3.2.2.2.2.2.1, ck_t (PrS (hA3.pP hC)), bC_t (ev_add hA3 (hA3.pP hC) (by omega)), rf_t hA4.2.2.1, ck_t (PrS (hA4.pP hC)), bnd_t, hA4.2.2.2.2.2.2.2.2.1, rf_t hA4.2.2.1, ck_t (PrS (hA4.pP hC)), bC_t (ev_add hA4 (hA4.pP hC) (by omega)), rf_t hA5.2.2.1, bnd_t, hA5.2.2.2.2.2.1, ck_t (PrS (hA5.pP hC)), bC_t (ev_add hA5 (hA5.pP hC) (by omega)), rf_t hA6.2.2.1, ck_t (PrS (hA6.pP hC)), bC_t (ev_add hA6 (hA6.pP hC) (by omega)), rf_t hA7.2.2.1, ck_t (PrS (hA7.pP hC)), bC_t (ev_add hA7 (hA7.pP hC) (by omega))]
  unfold hrR
  rw [bnd_t (e := B2.D w 42), bnd_t (e := B2.D w 42), m2, nI_shl (by omega), nI_or, bnd_t]
  have hB3 := hB2.hup (e := E 3 k) (by omega) m1 m3
  rw [← bT_u (m := F_Body_turns N o 9 _ _ _ _)]
  refine Out.pre (Out.bind (jo_turns (a0 := cs + 2) (x := cs + 5) hZ hZn ih hA8 hB3 hC (Or.inr ⟨_, he, rfl⟩) (show cs + 6 + 7 ≤ 2 * tkp L (i + 2) by omega) (by omega)) ?_ ?_) (((((add_ex.tr add_ex).tr add_ex).tr add_ex).tr add_ex).tr add_ex) (same.rf.sD (by unfold SRo; omega)) (Nat.le_refl _) hl2 (by omega)
  rotate_left
  · intro y B' k p0 hz
    exact ⟨(), B'.sD w 42 (nI hm), by rw [bnd_t], hz.sD (by omega), same.rf.sD (by unfold SRo; omega)⟩
  intro j v A9 y B9 hij9 hxa9 hsb9 hQ
  obtain ⟨hdp, c, hA9, hB9, h7, hd3, hd4, hf, c1, c2, c3, c4, hmf9, hds9⟩ := hQ
  have hj := hB9.1.2.2.2.2.1
  have hd4' : c + 3 + 2 * tkp L (i + 2) ≤ cs + 6 + 2 * tkp L j := hd4
  rw [bnd_t]
  refine Or.inr ⟨_, _, _, _, j, rfl, rfl, Nat.le_refl _, hj, exA.rf.mono (fun _ _ h => h) (by omega), same.rf.sD (by unfold SRo; omega), c + 2, nL, ln, lk, lf, hA9, hB9.hdn m1 m3, hC, Nat.le_refl _, fun x hx => ⟨rfl, rfl, rfl⟩, by omega, by omega, by omega, fun x hx => ?_, fun t ht => ?_, fun cd mn nu hag => ?_⟩
  · rw [hf x (by omega) (by omega)]
    simp only [code_add]
    rw [if_neg (by omega), if_neg (by omega), if_neg (by omega), if_neg (by omega), if_neg (by omega), if_neg (by omega), hco2, code_adv hp]
  · rw [rdw (by omega), rdw (by omega), (hmf9 t (by omega)).1, (hmf9 t (by omega)).2, rdw (by omega), rdw (by omega), hBe, rdf (by omega), rdw (by omega), rdw (by omega), rdw (by omega), rdw (by omega), rdw (by omega)]
    exact ⟨rfl, rfl⟩
  · have cc : ∀ x, cs ≤ x → x < cs + 6 → x ≠ cs + 5 → cd x = (addA (addA (addA (addA (addA (addA A2 p cs 6) p (cs + 1) (nI lc)) p (cs + 1 + 1) 10) p (cs + 1 + 1 + 1) (nI lc)) p (cs + 1 + 1 + 1 + 1) (nI (E 3 k))) p (cs + 1 + 1 + 1 + 1 + 1) 0).D (p + 191) x := fun x a b z => by
      rw [hag.1 x a (by omega), hf x (by omega) z]
    have m1' := (hag.2 (i + 1) (by omega) (by omega)).1
    rw [rdw (by omega), (hmf9 (i + 1) (by omega)).1, rdw (by omega), hBe, rds] at m1'
    simp only [code_add] at cc
    refine DS.her (tyF_k q) (tyF_k q2) m1' he ?_ ?_ ?_ ?_ ?_ ?_ ?_ hdp (hds9 cd mn nu ⟨fun x a b => hag.1 x (by omega) (by omega), fun t a b => ?_⟩) ?_ ?_
    · rw [cc cs (by omega) (by omega) (by omega), if_neg (by omega), if_neg (by omega), if_neg (by omega), if_neg (by omega), if_neg (by omega), if_pos rfl]
    · rw [cc (cs + 1) (by omega) (by omega) (by omega), if_neg (by omega), if_neg (by omega), if_neg (by omega), if_neg (by omega), if_pos rfl]
    · rw [cc (cs + 2) (by omega) (by omega) (by omega), if_neg (by omega), if_neg (by omega), if_neg (by omega), if_pos rfl]
    · rw [cc (cs + 3) (by omega) (by omega) (by omega), if_neg (by omega), if_neg (by omega), if_pos rfl]
    · rw [cc (cs + 4) (by omega) (by omega) (by omega), if_neg (by omega), if_pos rfl]
    · rw [hag.1 (cs + 5) (by omega) (by omega), c1]
    · rw [hag.1 (cs + 6) (by omega) (by omega)]; exact c2
    · obtain ⟨v1, v2⟩ := hag.2 t (by omega) b
      rw [rdw (by omega)] at v1 v2
      exact ⟨v1, v2⟩
    · rw [hag.1 c (by omega) (by omega), c3]
    · rw [hag.1 (c + 1) (by omega) (by omega), c4]
end Par
