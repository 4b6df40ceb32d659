/-! ===== while, hear ===== -/
section Par
variable {N p w T : Nat} {L : List (Nat × Nat × Int32 × Bool × Nat)} {g : Nat → Nat} {E : Nat → Nat → Nat} {Nm : Nat → Nat → List Nat} {Pv : Nat → Nat → Int32} {nL lc dp : Nat} {ln : Nat → List Nat} {lk lf : Nat → Nat} {hd : Nat → Int32}
theorem JA.lup {A : Hp} {i cs : Nat} {ev : Int32} (h : (JA p T L g E Nm Pv nL lc dp ln lk lf hd i cs A)) (hE : WE E) (hp : p = 133 ∨ p = 325) (hl : lc < 21) : (JA p T L g E Nm Pv nL (lc + 1) dp ln lk lf (uph hd lc ev) i cs ((A.sD 10 lc ev).sD 9 5 (nI (lc + 1)))) := by
  have h56 : E 0 0 ≤ 56 := hE.2.2.2.2.2.2.2.2.2.2.2.2.2.1
  have hx : exA (SJ p (E 0 0)) 0 A ((A.sD 10 lc ev).sD 9 5 (nI (lc + 1))) := (exA.rf.sD (decide_eq_true (by omega))).sD (decide_eq_true (by omega))
  obtain ⟨-, -, b1, b2, b3, b4, b5, b6, b7, b8, b9⟩ := id h
  refine h.chg hE hp hx ⟨b1, by rw [rdf (by decide), rdw (by decide)]; exact b2, by rw [rdf (by decide), rdw (by decide)]; exact b3, rds, by rw [rdf (by decide), rdw (by decide)]; exact b5, by rw [rdw (by omega), rdw (by omega)]; exact b6, by rw [rdw (by omega), rdw (by omega)]; exact b7, fun k hk => ?_, fun l hl2 => ?_⟩
  · obtain ⟨⟨s, s1, s2, s3, s4⟩, a2, a3, a4⟩ := b8 k hk
    obtain ⟨t1, t2⟩ := hx.str (SJ_lt (by omega)) s2 s3 s4
    exact ⟨⟨s, s1, t1, s3, t2⟩, by rw [rdw (by omega), rdw (by omega)]; exact a2, by rw [rdw (by omega), rdw (by omega)]; exact a3, by rw [rdw (by omega), rdw (by omega)]; exact a4⟩
  · rw [rdw (by decide)]
    by_cases z : l = lc
    · rw [z, rds, uph_s]
    · rw [rdf z, uph_o z]; exact b9 l (by omega)
theorem JA.ldn {A : Hp} {i cs : Nat} {ev : Int32} (h : (JA p T L g E Nm Pv nL (lc + 1) dp ln lk lf (uph hd lc ev) i cs A)) (hE : WE E) (hp : p = 133 ∨ p = 325) : (JA p T L g E Nm Pv nL lc dp ln lk lf hd i cs (A.sD 9 5 (nI lc))) := by
  have h56 : E 0 0 ≤ 56 := hE.2.2.2.2.2.2.2.2.2.2.2.2.2.1
  have hx : exA (SJ p (E 0 0)) 0 A (A.sD 9 5 (nI lc)) := exA.rf.sD (decide_eq_true (by omega))
  obtain ⟨-, -, b1, b2, b3, b4, b5, b6, b7, b8, b9⟩ := id h
  refine h.chg hE hp hx ⟨b1, by rw [rdf (by decide)]; exact b2, by rw [rdf (by decide)]; exact b3, rds, by rw [rdf (by decide)]; exact b5, by rw [rdw (by omega)]; exact b6, by rw [rdw (by omega)]; exact b7, fun k hk => ?_, fun l hl2 => ?_⟩
  · obtain ⟨⟨s, s1, s2, s3, s4⟩, a2, a3, a4⟩ := b8 k hk
    obtain ⟨t1, t2⟩ := hx.str (SJ_lt (by omega)) s2 s3 s4
    exact ⟨⟨s, s1, t1, s3, t2⟩, by rw [rdw (by omega)]; exact a2, by rw [rdw (by omega)]; exact a3, by rw [rdw (by omega)]; exact a4⟩
  · rw [rdw (by decide), b9 l (by omega), uph_o (by omega)]
theorem CX.lup {ev : Int32} (hC : (CX p E Nm nL lc dp ln lk lf hd)) (h20 : dp < 20) (hev : ev = -1 ∨ ∃ e, e < E 9 0 ∧ ev = nI e) : (CX p E Nm nL (lc + 1) (dp + 1) ln lk lf (uph hd lc ev)) := by
  obtain ⟨hE, hp, c3, c4, c5, c6, c7, c8, c9⟩ := hC
  refine ⟨hE, hp, c3, c4, by omega, by omega, c7, c8, fun l hl => ?_⟩
  by_cases z : l = lc
  · rw [z, uph_s]; exact hev
  · rw [uph_o z]; exact c9 l (by omega)
theorem neg1_nI {e : Nat} (h : e < 100) : ¬ (-1 : Int32) = nI e := fun z => by
  have z2 : (nI e).toInt = (-1 : Int32).toInt := by rw [z]
  rw [nI_toInt (by omega), show (-1 : Int32).toInt = -1 by decide] at z2
  omega
theorem JB.lup {B : Hp} {i : Nat} (h : (JB w T L g E Nm Pv nL lc dp ln lk lf hd i B)) : (JB w T L g E Nm Pv nL (lc + 1) dp ln lk lf (uph hd lc (-1)) i B) := by
  obtain ⟨a, e, b1, b2, ⟨hm, m1, m2, m3⟩, b4⟩ := h
  refine ⟨a, e, b1, b2, ⟨hm, m1, m2, fun x hx => (m3 x hx).trans ⟨fun ⟨l, l1, l2⟩ => ⟨l, by omega, by rw [uph_o (by omega)]; exact l2⟩, fun ⟨l, l1, l2⟩ => ?_⟩⟩, b4⟩
  by_cases z : l = lc
  · rw [z, uph_s] at l2; exact absurd l2 (neg1_nI (by omega))
  · rw [uph_o z] at l2; exact ⟨l, by omega, l2⟩
theorem JB.ldn {B : Hp} {i : Nat} (h : (JB w T L g E Nm Pv nL (lc + 1) dp ln lk lf (uph hd lc (-1)) i B)) : (JB w T L g E Nm Pv nL lc dp ln lk lf hd i B) := by
  obtain ⟨a, e, b1, b2, ⟨hm, m1, m2, m3⟩, b4⟩ := h
  refine ⟨a, e, b1, b2, ⟨hm, m1, m2, fun x hx => (m3 x hx).trans ⟨fun ⟨l, l1, l2⟩ => ?_, fun ⟨l, l1, l2⟩ => ⟨l, by omega, by rw [uph_o (by omega)]; exact l2⟩⟩⟩, b4⟩
  by_cases z : l = lc
  · rw [z, uph_s] at l2; exact absurd l2 (neg1_nI (by omega))
  · rw [uph_o z] at l2; exact ⟨l, by omega, l2⟩
/-- the block of a loop, in turns -/
theorem jo_turns {A B : Hp} {i cs a0 x : Nat} {ev : Int32} {o : Orc_BodyS} {o' : Orc_TextS} (hZ : ZS w o') (hZn : ZN w T L g o') (ih : dp < 20 → IHB o o' p w T L g E Nm Pv (dp + 1)) (ha : (JA p T L g E Nm Pv nL lc dp ln lk lf hd i cs A)) (hb : (JB w T L g E Nm Pv nL (lc + 1) dp ln lk lf (uph hd lc ev) i B)) (hC : (CX p E Nm nL lc dp ln lk lf hd)) (hev : ev = -1 ∨ ∃ e, e < E 9 0 ∧ ev = nI e) (hcs : cs + 7 ≤ 2 * tkp L i) (hx : x < cs) :
    (Out (SBo p (E 0 0)) (SRo w) w L i A B (F_Body_turns N o 9 (nI a0) (nI x) ev A) (F_MText_block N o' w B) (fun j _ A' _ B' => dp < 20 ∧ ∃ c, (JA p T L g E Nm Pv nL lc dp ln lk lf hd j (c + 2) A') ∧ (JB w T L g E Nm Pv nL (lc + 1) dp ln lk lf (uph hd lc ev) j B') ∧ i < j ∧ cs + 1 ≤ c ∧ c + 3 + 2 * tkp L i ≤ cs + 2 * tkp L j ∧ (∀ y, y < cs → y ≠ x → A'.D (p + 191) y = A.D (p + 191) y) ∧ A'.D (p + 191) x = nI (c + 2) ∧ A'.D (p + 191) cs = 1 ∧ A'.D (p + 191) c = 2 ∧ A'.D (p + 191) (c + 1) = nI a0 ∧ mfr w i B B' ∧ ∀ cd mn nu, Agr p w (cs + 1) c i j A' B' cd mn nu → DS (tyF L) mn nu cd E 2 nL (lc + 1) lk (uph hd lc ev) (dp + 1) i j (cs + 1) c nL lk)) := by
  have hp := hC.2.1
  have hG := ha.1.1.1
  have hi := ha.1.2.2.2.2.2.2.1
  have h20 : dp ≤ 20 := hC.2.2.2.2.2.1
  have hlc : lc ≤ dp := hC.2.2.2.2.1
  have h56 : E 0 0 ≤ 56 := hC.1.2.2.2.2.2.2.2.2.2.2.2.2.2.1
  have hpj := pos_j hb.1
  have hA1 := ha.add (v := 1) hC
  have hG1 := hA1.1.1.1
  have hA2 := hA1.lup (ev := ev) hC.1 hp (by omega)
  have hG2 := hA2.1.1.1
  have lx : (addA A p cs 1).D 9 5 = nI lc := hA1.2.2.2.2.2.1
  unfold F_Body_turns B_Body_turns_31
  rw [ck_t (rS_9 hG), rf_t ha.2.2.1, ck_t (PrS (ha.pP hC)), bC_t (ev_add ha (ha.pP hC) (by omega)), bnd_t, lx, rf_t (rP_9_4 hG1), ar_t (rA_9_4 hG1), if_neg (show ¬ Int32.ofNat 21 ≤ nI lc from nI_ge (b := 21) (by omega) (by decide)), rf_t (rP_9_4 hG1), bnd_t, ar_t (rA_9_4 hG1), wrI (show lc < 21 by omega) (by decide)]
  have hG1' : Gr ((addA A p cs 1).sD 10 lc ev) := ⟨hG1.1, hG1.2⟩
  rw [ck_t (rS_9 hG1'), bnd_t, rdw (by decide), lx, nI_1, bnd_t, ← bC_u (m := F_MText_block N o' w B)]
  refine Out.pre (Out.bind (jo_inner hZ hZn ih hA2 hb hC.1 hp h20 (fun z => hC.lup z hev) (by omega)) ?_ ?_) ((add_ex.sD (decide_eq_true (by omega))).sD (decide_eq_true (by omega))) same.rf (Nat.le_refl _) hi (by omega)
  rotate_left
  · intro y B' k p0 hz
    exact ⟨(), B', rfl, hz, same.rf⟩
  intro j v A3 y B3 hij hxa hsb hQ
  obtain ⟨hdp, c, hA3, hB3, h1, h2, h3, h4, h5, h6⟩ := hQ
  have hj := hB3.1.2.2.2.2.1
  have hpj2 := pos_j hB3.1
  have hA4 := hA3.ldn hC.1 hp
  have hA5 := hA4.add (v := 2) hC
  have hA6 := hA5.add (v := nI a0) hC
  have hA7 : (JA p T L g E Nm Pv nL lc dp ln lk lf hd j (c + 2) ((addA (addA (A3.sD 9 5 (nI lc)) p c 2) p (c + 1) (nI a0)).sD (p + 191) x (nI (c + 2)))) := hA6.code hC
  rw [bnd_t, hA3.2.2.2.2.2.1, bnd_t, nI_m, rf_t hA4.2.2.1, ck_t (PrS (hA4.pP hC)), bC_t (ev_add hA4 (hA4.pP hC) (by omega)), rf_t hA5.2.2.1, ck_t (PrS (hA5.pP hC)), bC_t (ev_add hA5 (hA5.pP hC) (by omega)), rf_t hA6.2.2.1, ck_t (PrS (hA6.pP hC)), bC_t (ev_aim hA6 hC (show x < c + 2 by omega) (by omega))]
  have cA : ∀ y, y < c → y ≠ x → ((addA (addA (A3.sD 9 5 (nI lc)) p c 2) p (c + 1) (nI a0)).sD (p + 191) x (nI (c + 2))).D (p + 191) y = A3.D (p + 191) y := by
    intro y hy hne
    rw [rdf hne, code_add, if_neg (by omega), code_add, if_neg (by omega), rdw (by omega)]
  have cB : ∀ y, y < cs + 1 → A3.D (p + 191) y = (addA A p cs 1).D (p + 191) y := by
    intro y hy
    rw [h4 y hy, rdw (by omega), rdw (by omega)]
  refine Or.inr ⟨_, _, _, _, j, rfl, rfl, Nat.le_refl _, hj, ((((exA.rf.sD (decide_eq_true (by omega))).tr add_ex).tr add_ex).sD (decide_eq_true (by omega))).mono (fun _ _ h => h) (by omega), same.rf, hdp, c, hA7, hB3, h1, h2, by omega, fun y hy hne => ?_, rds, ?_, ?_, ?_, h5, fun cd mn nu hag => h6 cd mn nu ⟨fun y a b => ?_, hag.2⟩⟩
  · rw [cA y (by omega) hne, cB y (by omega), code_add, if_neg (by omega)]
  · rw [cA cs (by omega) (by omega), cB cs (by omega), code_add, if_pos rfl]
  · rw [rdf (by omega), code_add, if_neg (by omega), code_add, if_pos rfl]
  · rw [rdf (by omega), code_add, if_pos rfl]
  · rw [hag.1 y a b, cA y b (by omega)]
theorem jo_while {A B : Hp} {i cs : Nat} {o : Orc_BodyS} {o' : Orc_TextS} (hZ : ZS w o') (hZn : ZN w T L g o') (ih : dp < 20 → IHB o o' p w T L g E Nm Pv (dp + 1)) (ha : (JA p T L g E Nm Pv nL lc dp ln lk lf hd i cs A)) (hb : (JB w T L g E Nm Pv nL lc dp ln lk lf hd i B)) (hC : (CX p E Nm nL lc dp ln lk lf hd)) (hcs : cs + 7 ≤ 2 * tkp L i) (hN : 7000 ≤ N) (q : tkk L i = 57) : (Out (SBo p (E 0 0)) (SRo w) w L i A B (F_Body_readStatement N o 9 A) (F_MText_statement N o' w B) (fun j _ A' _ B' => (PS p w T L g E Nm Pv nL lc dp ln lk lf hd i cs A B) j A' B')) := by
  have hp := hC.2.1
  have hG := ha.1.1.1
  have hnx := hb.1.gt (show 2 ≤ tkk L i by omega)
  have u0 := nx_pos2 hb.1 hnx (show 40 ≤ tkk L i by omega)
  have hA1 := ha.adv hC hnx
  have hB1 := hb.nx hnx
  have hG1 := hA1.1.1.1
  rw [sA_57 ha q, sB_57 hb q]
  unfold F_Body_readWhile
  simp only [bT_u]
  rw [ck_t (rS_9 hG), rf_t (rP_9_0 hG), ck_t (rS_1 hG), bC_t (ev_advance ha.1 hnx), rf_t hA1.2.2.1, ck_t (PrS (hA1.pP hC)), bnd_t, hA1.2.2.2.2.2.2.2.2.1]
  refine Out.pre (Out.bind (show _ from jo_want (kw := 3) (jo_expr hN hC) hA1 hB1 hC (show cs + 8 ≤ 2 * tkp L (i + 1) by omega) (by decide)) ?_ ?_) (adv_ex.mono SL_SBo (Nat.le_refl _)) (same.rf.sD (by unfold SRo; omega)) (show i ≤ i + 1 by omega) hnx (by omega)
  rotate_left
  · intro y B' k p0 hz
    obtain ⟨B2, e1, e2, e3⟩ := fz_block (N := N) hZ hz
    exact ⟨(), B2, e1, e2, e3⟩
  intro m v A4 y B4 hij hxa4 hsb4 hQ
  obtain ⟨cs4, rfl, hA4', hB4, h1, hd1, hd2, hcf, hmf, -, hde⟩ := hQ
  have hA4 : (JA p T L g E Nm Pv nL lc dp ln lk lf hd m cs4 A4) := hA4'
  have hpj := pos_j hB4.1
  have hm := hB4.1.2.2.2.2.1
  have hA6 := (hA4.add (v := 3) hC).add (v := 0) hC
  rw [bC_t (ev_jump hA4 hC (by omega))]
  refine Out.pre (Out.wk (jo_turns (a0 := cs) (x := cs4 + 1) hZ hZn ih hA6 hB4.lup hC (Or.inl rfl) (by omega) (by omega)) ?_) (add_ex.tr add_ex) same.rf (Nat.le_refl _) hm (by omega)
  intro j v A7 y B7 hij7 hxa7 hsb7 hQ
  obtain ⟨hdp, c, hA7, hB7, h7, hd3, hd4, hf, c1, c2, c3, c4, hmf7, hds7⟩ := hQ
  refine ⟨c + 2, nL, ln, lk, lf, hA7, hB7.ldn, hC, Nat.le_refl _, fun x hx => ⟨rfl, rfl, rfl⟩, by omega, by omega, by omega, fun x hx => ?_, fun t ht => ?_, fun cd mn nu hag => ?_⟩
  · rw [hf x (by omega) (by omega), code_add, if_neg (by omega), code_add, if_neg (by omega), hcf x hx, code_adv hp]
  · rw [(hmf7 t (by omega)).1, (hmf7 t (by omega)).2, (hmf t (by omega)).1, (hmf t (by omega)).2, rdw (by omega), rdw (by omega)]
    exact ⟨rfl, rfl⟩
  · refine DS.whl (m := m) (b := cs4) (tyF_k q) (hde cd mn nu ⟨fun x a b => ?_, fun t a b => ?_⟩) ?_ ?_ ?_ hdp (hds7 cd mn nu ⟨fun x a b => hag.1 x (by omega) (by omega), fun t a b => hag.2 t (by omega) b⟩) ?_ ?_
    · rw [hag.1 x a (by omega), hf x (by omega) (by omega), code_add, if_neg (by omega), code_add, if_neg (by omega)]
    · rw [(hag.2 t (by omega) (by omega)).1, (hag.2 t (by omega) (by omega)).2]; exact hmf7 t b
    · rw [hag.1 cs4 (by omega) (by omega), hf cs4 (by omega) (by omega), code_add, if_neg (by omega), code_add, if_pos rfl]
    · rw [hag.1 (cs4 + 1) (by omega) (by omega), c1]
    · rw [hag.1 (cs4 + 2) (by omega) (by omega)]; exact c2
    · rw [hag.1 c (by omega) (by omega), c3]
    · rw [hag.1 (c + 1) (by omega) (by omega), c4]
end Par
