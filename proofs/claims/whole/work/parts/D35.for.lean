/-! ===== for, its head ===== -/
section Par
variable {N p w T : Nat} {L : List (Nat × Nat × Int32 × Bool × Nat)} {g : Nat → Nat} {E : Nat → Nat → Nat} {Nm : Nat → Nat → List Nat} {Pv : Nat → Nat → Int32} {nL lc dp : Nat} {ln : Nat → List Nat} {lk lf : Nat → Nat} {hd : Nat → Int32}
theorem Zf.at {B : Hp} {k p0 x : Nat} (h : Zf B w k p0) (hx : x < 6002) : Zf (B.sD w 11 (nI x)) w k p0 := by
  obtain ⟨a1, a2, a3, a4, a5, -⟩ := h
  exact ⟨a1, by rw [rdf (by decide)]; exact a2, by rw [rdf (by decide)]; exact a3, a4, a5, x, rds, hx⟩
theorem fz_165 {B : Hp} {k p0 : Nat} {a : Int32} {o' : Orc_TextS} (hZ : ZS w o') (h : Zf B w k p0) : ∃ B', B_MText_goes_165 N o' w a B = some ((), B') ∧ Zf B' w k p0 ∧ same (SRo w) B B' := by
  obtain ⟨B2, e1, e2, e3⟩ := fz_block (N := N) hZ h
  refine ⟨B2.sD w 37 (B.D w 37), ?_, e2.sD (by omega), e3.tr (same.rf.sD (by unfold SRo; omega))⟩
  unfold B_MText_goes_165
  rw [ck_t (TS h.1), bnd_t, bC_t (fz_tells h), bC_t e1, bnd_t]
def goK (N : Nat) (o : Orc_TextS) (p0 : Nat) (v3 v12 : Int32) (H13 : Hp) : Option (Unit × Hp) :=
    bC (F_MText_is N p0 (220 : Int32) H13) fun v15 H16 =>
    if v15 = (0 : Int32) then
    B_MText_goes_165 N o p0 v3 H16
    else nrR N o p0 v3 v12 H16
theorem fz_goK {B : Hp} {k p0 : Nat} {a b : Int32} {o' : Orc_TextS} (hZ : ZS w o') (h : Zf B w k p0) : ∃ B', goK N o' w a b B = some ((), B') ∧ Zf B' w k p0 ∧ same (SRo w) B B' := by
  unfold goK
  rw [bC_t (fz_is h), if_pos rfl]
  exact fz_165 hZ h
theorem fz_142 {B : Hp} {k p0 x : Nat} {a : Int32} {o' : Orc_TextS} (hN : 1 ≤ N) (hZ : ZS w o') (h : Zf B w k p0) (hx : B.D w 11 = nI x) (hx2 : x + 1 < 6002) : ∃ B', B_MText_goes_142 N o' w a B = some ((), B') ∧ Zf B' w k p0 ∧ same (SRo w) B B' := by
  have z1 := h.at hx2
  obtain ⟨B2, e1, e2, e3⟩ := fz_closes (N := N) z1
  obtain ⟨B3, f1, f2, f3⟩ := fz_165 (N := N) (a := a) hZ e2
  refine ⟨B3, ?_, f2, (same.rf.sD (by unfold SRo; omega)).tr (e3.tr f3)⟩
  unfold B_MText_goes_142
  rw [ck_t (TS h.1), bnd_t, hx, nI_1, bnd_t, bC_t (fz_opens z1), bC_t (fz_wants (ZO_50 hN) z1), bC_t e1, f1]
theorem jo_for {A B : Hp} {i cs : Nat} {o : Orc_BodyS} {o' : Orc_TextS} (hZ : ZS w o') (hZn : ZN w T L g o') (ih : dp < 20 → IHB o o' p w T L g E Nm Pv (dp + 1)) (ha : (JA p T L g E Nm Pv nL lc dp ln lk lf hd i cs A)) (hb : (JB w T L g E Nm Pv nL lc dp ln lk lf hd i B)) (hC : (CX p E Nm nL lc dp ln lk lf hd)) (hcs : cs + 7 ≤ 2 * tkp L i) (hN : 7000 ≤ N) (q : tkk L i = 58) : (Out (SBo p (E 0 0)) (SRo w) w L i A B (F_Body_readStatement N o 9 A) (F_MText_statement N o' w B) (fun j _ A' _ B' => (PS p w T L g E Nm Pv nL lc dp ln lk lf hd i cs A B) j A' B')) := by
  have hp := hC.2.1
  have hG := ha.1.1.1
  have hnx := hb.1.gt (show 2 ≤ tkk L i by omega)
  have u0 := nx_pos2 hb.1 hnx (show 40 ≤ tkk L i by omega)
  have hA1 := ha.adv hC hnx
  have hB1 := hb.nx hnx
  have hW := hC.1.2.2.2.2.2.2.2.2.2.2.2.2.2.2
  have h61 : L.length ≤ 6001 := by have := hb.1.2.2.2.2.2.2.1; have := hb.1.2.2.2.2.2.2.2.1; omega
  have e : F_MText_goes N o' w (B.sD w 11 (nI (i + 1))) = bC (F_MText_localName N w (B.sD w 11 (nI (i + 1)))) fun v3 H4 => bC (F_MText_takes N w (219 : Int32) H4) fun v6 H7 => bC (bC (F_MText_name N w H7) (fun y H => F_MText_numberOf N w y (nI (0 + 2)) H)) (goK N o' w v3) := by
    unfold F_MText_goes
    rw [ck_t (TS hB1.1.1.1)]
    simp only [bC_as]
    rfl
  rw [sA_58 ha q, sB_58 hb q, e]
  unfold F_Body_readFor
  rw [ck_t (rS_9 hG), rf_t (rP_9_0 hG), ck_t (rS_1 hG), bC_t (ev_advance ha.1 hnx)]
  refine Out.pre (Out.bind (jo_new hA1 hB1 hC hN) ?_ ?_) (adv_ex.mono SL_SBo (Nat.le_refl _)) (same.rf.sD (by unfold SRo; omega)) (show i ≤ i + 1 by omega) hnx (by omega)
  rotate_left
  · intro y B' k p0 hz
    obtain ⟨B2, e1, e2, e3⟩ := fz_goK (N := N) (a := y) (b := 0) hZ hz
    exact ⟨(), B2, by rw [bC_t (fz_takes hz), bC_as, bC_t (fz_name hz), bC_t (fz_numberOf hz), e1], e2, e3⟩
  intro j v A2 y B2 hij hxa2 hsb hQ
  obtain ⟨rfl, q2, rfl, rfl, hA2, hB2, hco2, h12, hnm, s, rfl, hs1, hs2, hs3⟩ := hQ
  have hG2 := hA2.1.1.1
  rw [on_t, rf_t (rP_9_0 hG2), ck_t (rS_1 hG2)]
  refine Out.bind (show _ from jo_take (k := 59) hA2 hB2 hC (by decide) (by decide)) ?_ ?_
  rotate_left
  · intro y B' k p0 hz
    obtain ⟨B2, e1, e2, e3⟩ := fz_goK (N := N) (a := nI (i + 1)) (b := 0) hZ hz
    exact ⟨(), B2, by rw [bC_as, bC_t (fz_name hz), bC_t (fz_numberOf hz), e1], e2, e3⟩
  intro j v A3 y B3 hij hxa3 hsb hQ
  obtain ⟨rfl, q3, rfl, rfl, hA3, hB3⟩ := hQ
  refine Out.bind (show _ from jo_number (so := 0) hA3 hB3 hC hN (by decide)) ?_ ?_
  rotate_left
  · intro y B' k p0 hz
    obtain ⟨B2, e1, e2, e3⟩ := fz_goK (N := N) (a := nI (i + 1)) (b := y) hZ hz
    exact ⟨(), B2, e1, e2, e3⟩
  intro j v A4 y B4 hij hxa4 hsb hQ
  obtain ⟨rfl, q4, hA4', hB4', hco4, k, hk1, hk2, rfl, rfl, hBe⟩ := hQ
  have hA4 : (JA p T L g E Nm Pv nL lc dp ln lk lf hd (i + 4) cs A4) := hA4'
  have hB4 : (JB w T L g E Nm Pv nL lc dp ln lk lf hd (i + 4) B4) := hB4'
  have hc : E 3 k < E 4 0 := (hW k hk1).2.2.1 hk2
  have hG4 := hA4.1.1.1
  have hl4 := hB4.1.2.2.2.2.1
  have h81 := (hA4.1.2.2.2.2.2.2.2.2.2.2.2.1 (i + 4) hl4).2.1
  have u1 : tkp L (i + 1) + 1 ≤ tkp L (i + 2) := nx_pos hb.1 (by omega)
  have u2 : tkp L (i + 2) + 2 ≤ tkp L (i + 3) := nx_pos2 hb.1 (show i + 2 + 1 < L.length by omega) (show 40 ≤ tkk L (i + 2) by have : tkk L (i + 1 + 1) = 59 := q3; have e : i + 1 + 1 = i + 2 := rfl; rw [e] at this; omega)
  have u3 : tkp L (i + 3) + 1 ≤ tkp L (i + 4) := nx_pos hb.1 (show i + 3 + 1 < L.length by omega)
  have hpj4 := pos_j hB4.1
  have cc4 : ∀ x, A4.D (p + 191) x = A.D (p + 191) x := fun x => by rw [hco4, code_adv hp, hco2, code_adv hp]
  have mm4 : ∀ t, t < i + 3 → B4.D (w + 7) t = B.D (w + 7) t ∧ B4.D (w + 5) t = B.D (w + 5) t := fun t ht => by
    rw [hBe, rdf (by omega), rdw (by omega), rdw (by omega), rdw (by omega), rdw (by omega), rdw (by omega), rdw (by omega), rdw (by omega), rdw (by omega), rdw (by omega)]; exact ⟨rfl, rfl⟩
  have m3 : B4.D (w + 7) (i + 3) = nI (E 3 k) := by rw [hBe]; exact rds
  have hx24 := hxa3.tr hxa4
  obtain ⟨t1, t2⟩ := hx24.str (SBo_lt (by omega)) hs1 hs2 hs3
  have q3' : tkk L (i + 2) = 59 := q3
  rw [rf_t (rP_9_0 hG4), ck_t (rS_1 hG4), bnd_t, hA4.1.2.2.2.2.1]
  unfold goK
  rw [bC_t (show F_MText_is N w (220 : Int32) B4 = some (bI (decide (tkk L (i + 4) = 60)), B4) from ev_is (k := 60) hB4.1 (by decide))]
  show (Out (SBo p (E 0 0)) (SRo w) w L (i + 4) A4 B4 _ _ _)
  by_cases qn : tkk L (i + 4) = 60
  · have hn5 := hB4.1.gt (show 2 ≤ tkk L (i + 4) by omega)
    have hA5 := hA4.adv hC hn5
    have hB5 := hB4.nx hn5
    have hG5 := hA5.1.1.1
    have u4 := nx_pos2 hb.1 hn5 (show 40 ≤ tkk L (i + 4) by omega)
    have h20 : dp ≤ 20 := hC.2.2.2.2.2.1
    rw [if_pos (show nI (tkk L (i + 4)) = (60 : Int32) by rw [qn]; rfl), decide_eq_true qn, if_neg bI_t0]
    by_cases nr : nearN E (E 17 0 - 1) (E 3 k)
    · rw [bC_t ((ev_near hA4 hC hc).1 nr), if_neg (show ¬ (1 : Int32) = 0 by decide), (ev_nrR hB4 hC hc).1 nr]
      unfold B_Body_readFor_65 B_MText_goes_128 B_MText_goes_142
      have ew : ∀ H : Hp, isT H w → (bC (F_MText_opens N w H) fun v57 H58 => bC (F_MText_wants N (X_TextE N 50) w (2 : Int32) H58) fun v60 H61 => bC (F_MText_closes N w H61) fun v63 H64 => B_MText_goes_165 N o' w (nI (i + 1)) H64) = bC (F_MText_wantsIn N (X_TextE N 50) w (nI 2) H) fun v63 H64 => B_MText_goes_165 N o' w (nI (i + 1)) H64 := by
        intro H hT
        unfold F_MText_wantsIn
        rw [ck_t (TS hT)]
        simp only [bC_as, bC_v]
        rfl
      rw [ck_t (rS_9 hG4), rf_t (rP_9_0 hG4), ck_t (rS_1 hG4), bC_t (ev_advance hA4.1 hn5), if_neg (show ¬ (1 : Int32) = 0 by decide), ck_t (TS hB4.1.1.1), bnd_t, hB4.1.2.2.1, nI_1, bnd_t, ew _ hB5.1.1.1]
      refine Out.pre (Out.bind (show _ from jo_inP (kw := 2) (ZO_50 (by omega)) (fun z => jo_expr hN (hC.dep (by have := hC.2.2.2.2.1; omega) (by omega))) hA5 hB5 hC (show cs + 8 ≤ 2 * tkp L (i + 4 + 1) by omega) (by decide) (by decide)) ?_ ?_) (adv_ex.mono SL_SBo (Nat.le_refl _)) (same.rf.sD (by unfold SRo; omega)) (show i + 4 ≤ i + 4 + 1 by omega) hn5 (by omega)
      rotate_left
      · intro y B' k p0 hz
        obtain ⟨B2, e1, e2, e3⟩ := fz_165 (N := N) (a := nI (i + 1)) hZ hz
        exact ⟨(), B2, e1, e2, e3⟩
      intro j v A6 y B6 hij hxa6 hsb6 hQ
      obtain ⟨cs6, m, rfl, rfl, hA6, hB6, h6, q12, q13, hdp, hd1, hd2, hcf6, hmf6, hde6⟩ := hQ
      have hl6 := hB6.1.2.2.2.2.1
      have hpj6 := pos_j hB6.1
      have hA7 := hA6.add (v := 7) hC
      have hA8 := hA7.add (v := nI lc) hC
      have hx26 := hx24.tr ((adv_ex (A := A4) (L := L) (i := i + 4)).mono (SL_SBo (p := p) (n := E 0 0)) (Nat.le_refl _))
      have hx28 := (hx26.tr hxa6).tr ((add_ex (A := A6) (p := p) (n := E 0 0) (cs := cs6) (v := 7)).tr (add_ex (v := nI lc) (cs := cs6 + 1)))
      obtain ⟨r1, r2⟩ := hx28.str (SBo_lt (by omega)) hs1 hs2 hs3
      rw [rf_t hA6.2.2.1, ck_t (PrS (hA6.pP hC)), bC_t (ev_add hA6 (hA6.pP hC) (by omega)), rf_t hA7.2.2.1, bnd_t, hA7.2.2.2.2.2.1, ck_t (PrS (hA7.pP hC)), bC_t (ev_add hA7 (hA7.pP hC) (by omega))]
      refine Out.pre (Out.wk (jo_for2 (u := i + 1) (c := E 3 k) (op := 9) hZ hZn ih hA8 hB6 hC (by omega) (by omega) (hB6.1.tn (show i + 1 < L.length by omega)) h12 hnm r1 hs2 r2) ?_) (add_ex.tr add_ex) same.rf (Nat.le_refl _) hl6 (by omega)
      intro j v A9 y B9 hij9 hxa9 hsb9 hQ
      obtain ⟨-, c, hA9, hB9, f1, f2, f3, f4, g0, g1, g2, g3, g4, g5, g6, g7, g8, g9, n1, n2, n3, hds⟩ := hQ
      have cb : ∀ x, x < cs6 → A9.D (p + 191) x = A6.D (p + 191) x := fun x hx => by
        rw [f4 x (by omega), code_add, if_neg (by omega), code_add, if_neg (by omega)]
      have mb : ∀ t, t < i + 3 → t ≠ i + 1 → B9.D (w + 7) t = B.D (w + 7) t := fun t ht hne => by
        rw [n2 t (by omega) hne, (hmf6 t (by omega)).1, rdw (by omega), (mm4 t ht).1]
      have nb : ∀ t, t < i + 3 → B9.D (w + 5) t = B.D (w + 5) t := fun t ht => by
        rw [n3 t (by omega), (hmf6 t (by omega)).2, rdw (by omega), (mm4 t ht).2]
      refine ⟨c + 2, nL, ln, lk, lf, hA9, hB9, hC, Nat.le_refl _, fun x hx => ⟨rfl, rfl, rfl⟩, by omega, by omega, by omega, fun x hx => ?_, fun t ht => ⟨mb t (by omega) (by omega), nb t (by omega)⟩, fun cd mn nu hag => ?_⟩
      · rw [cb x (by omega), hcf6 x hx, code_adv hp, cc4]
      · refine DS.forn (m := m) (b := cs6) (q := E 3 k) (tyF_k q) (tyF_k q2) ?_ h12 (tyF_k q3') ?_ hc (tyF_k qn) nr.1 nr.2.1 nr.2.2.1 nr.2.2.2.1 nr.2.2.2.2 (tyF_k q12) hdp (hde6 cd mn nu ⟨fun x a b => ?_, fun t a b => ?_⟩) (tyF_k q13) ?_ ?_ ?_ ?_ ?_ ?_ ?_ ?_ ?_ ?_ (hds cd mn nu ⟨fun x a b => hag.1 x (by omega) (by omega), fun t a b => hag.2 t (by omega) b⟩) ?_ ?_
        · rw [(hag.2 (i + 1) (by omega) (by omega)).1, n1]
        · rw [(hag.2 (i + 3) (by omega) (by omega)).1, n2 (i + 3) (by omega) (by omega), (hmf6 (i + 3) (by omega)).1, rdw (by omega), m3]
        · rw [hag.1 x a (by omega), cb x b]
        · rw [(hag.2 t (by omega) (by omega)).1, (hag.2 t (by omega) (by omega)).2, n2 t b (by omega), n3 t b]; exact ⟨rfl, rfl⟩
        · rw [hag.1 cs6 (by omega) (by omega), f4 cs6 (by omega), code_add, if_neg (by omega), code_add, if_pos rfl]
        · rw [hag.1 (cs6 + 1) (by omega) (by omega), f4 (cs6 + 1) (by omega), code_add, if_pos rfl]
        · rw [hag.1 (cs6 + 2) (by omega) (by omega)]; exact g0
        · rw [hag.1 (cs6 + 3) (by omega) (by omega)]; exact g1
        · rw [hag.1 (cs6 + 4) (by omega) (by omega)]; exact g2
        · rw [hag.1 (cs6 + 5) (by omega) (by omega)]; exact g3
        · rw [hag.1 (cs6 + 6) (by omega) (by omega)]; exact g4
        · rw [hag.1 (cs6 + 7) (by omega) (by omega)]; exact g5
        · rw [hag.1 (cs6 + 8) (by omega) (by omega)]; exact g6
        · rw [hag.1 (cs6 + 9) (by omega) (by omega)]; exact g7
        · rw [hag.1 c (by omega) (by omega)]; exact g8
        · rw [hag.1 (c + 1) (by omega) (by omega)]; exact g9
    · have z5 : Zf (failB B4 w 5 (tkp L (i + 4))) w 5 (tkp L (i + 4)) := hB4.1.fail (by decide) (by decide)
      have hx5 : (failB B4 w 5 (tkp L (i + 4))).D w 11 = nI (i + 4) := by
        unfold failB; rw [rdf (by decide), rdf (by decide)]; exact hB4.1.2.2.1
      obtain ⟨B5, f1, f2, f3⟩ := fz_142 (N := N) (a := nI (i + 1)) (by omega) hZ z5 hx5 (by omega)
      unfold B_MText_goes_128 at *
      rw [bC_t ((ev_near hA4 hC hc).2 nr), if_pos (show (0 : Int32) = 0 from rfl), rf_t (rP_9_0 hG4), rf_t (rP_9_0 hG4), ck_t (rS_1 hG4), bnd_t, hA4.1.2.2.2.2.2.1, ck_t (rS_1 hG4), ev_refuse hG4, bT_z, (ev_nrR hB4 hC hc).2 nr]
      unfold B_MText_goes_128
      rw [if_pos rfl, ck_t (TS hB4.1.1.1), bnd_t, hB4.1.2.2.1, bC_t (show F_MText_fails N w (5 : Int32) (nI (i + 4)) B4 = _ from ev_fails (k := 5) hB4.1 hl4), f1]
      exact Out.no (k := 5) hB4.1 (by decide) (by decide) hl4 f2 (SRo_fail.tr f3)
  · rw [if_neg (show ¬ nI (tkk L (i + 4)) = (60 : Int32) from fun z => qn ((nI_eq (b := 60) (by omega) (by decide)).mp z)), decide_eq_false qn, if_pos bI_f]
    refine Out.wk (jo_for2 (u := i + 1) (c := E 3 k) (op := 8) hZ hZn ih hA4 hB4 hC (by omega) (by omega) (hB4.1.tn (show i + 1 < L.length by omega)) h12 hnm t1 hs2 t2) ?_
    intro j v A9 y B9 hij9 hxa9 hsb9 hQ
    obtain ⟨hdp, c, hA9, hB9, f1, f2, f3, f4, g0, g1, g2, g3, g4, g5, g6, g7, g8, g9, n1, n2, n3, hds⟩ := hQ
    refine ⟨c + 2, nL, ln, lk, lf, hA9, hB9, hC, Nat.le_refl _, fun x hx => ⟨rfl, rfl, rfl⟩, by omega, by omega, by omega, fun x hx => ?_, fun t ht => ⟨?_, ?_⟩, fun cd mn nu hag => ?_⟩
    · rw [f4 x hx, cc4]
    · rw [n2 t (by omega) (by omega), (mm4 t (by omega)).1]
    · rw [n3 t (by omega), (mm4 t (by omega)).2]
    · refine DS.forr (q := E 3 k) (tyF_k q) (tyF_k q2) ?_ h12 (tyF_k q3') ?_ hc ?_ ?_ ?_ ?_ ?_ ?_ ?_ ?_ ?_ hdp (hds cd mn nu ⟨fun x a b => hag.1 x (by omega) (by omega), fun t a b => hag.2 t (by omega) b⟩) ?_ ?_
      · rw [(hag.2 (i + 1) (by omega) (by omega)).1, n1]
      · rw [(hag.2 (i + 3) (by omega) (by omega)).1, n2 (i + 3) (by omega) (by omega), m3]
      · unfold tyF
        exact fun z => qn ((hB4.1.ty (k := 60) (by decide)).mp z)
      · rw [hag.1 cs (by omega) (by omega)]; exact g0
      · rw [hag.1 (cs + 1) (by omega) (by omega)]; exact g1
      · rw [hag.1 (cs + 2) (by omega) (by omega)]; exact g2
      · rw [hag.1 (cs + 3) (by omega) (by omega)]; exact g3
      · rw [hag.1 (cs + 4) (by omega) (by omega)]; exact g4
      · rw [hag.1 (cs + 5) (by omega) (by omega)]; exact g5
      · rw [hag.1 (cs + 6) (by omega) (by omega)]; exact g6
      · rw [hag.1 (cs + 7) (by omega) (by omega)]; exact g7
      · rw [hag.1 c (by omega) (by omega)]; exact g8
      · rw [hag.1 (c + 1) (by omega) (by omega)]; exact g9
end Par
