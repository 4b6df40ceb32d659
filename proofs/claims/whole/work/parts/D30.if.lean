/-! ===== if, the turns of loops ===== -/
section Par
variable {N p w T : Nat} {L : List (Nat × Nat × Int32 × Bool × Nat)} {g : Nat → Nat} {E : Nat → Nat → Nat} {Nm : Nat → Nat → List Nat} {Pv : Nat → Nat → Int32} {nL lc dp : Nat} {ln : Nat → List Nat} {lk lf : Nat → Nat} {hd : Nat → Int32}
theorem fz_block {B : Hp} {k p0 : Nat} {o' : Orc_TextS} (hZ : ZS w o') (h : Zf B w k p0) : ∃ B', F_MText_block N o' w B = some ((), B') ∧ Zf B' w k p0 ∧ same (SRo w) B B' := by
  obtain ⟨B1, e1, e2, e3⟩ := hZ B k p0 h
  refine ⟨B1.sD w 41 (B1.D w 41 - 1), ?_, e2.sD (by omega), e3.tr (same.rf.sD (by unfold SRo; omega))⟩
  unfold F_MText_block B_MText_block_13
  rw [ck_t (TS h.1), bC_t (fz_is h), if_pos rfl, ck_t (TS h.1), bC_t e1, bnd_t, bnd_t]
theorem jo_if {A B : Hp} {i cs : Nat} {o : Orc_BodyS} {o' : Orc_TextS} (hZ : ZS w o') (hZn : ZN w T L g o') (ih : dp < 20 → IHB o o' p w T L g E Nm Pv (dp + 1)) (ha : (JA p T L g E Nm Pv nL lc dp ln lk lf hd i cs A)) (hb : (JB w T L g E Nm Pv nL lc dp ln lk lf hd i B)) (hC : (CX p E Nm nL lc dp ln lk lf hd)) (hcs : cs + 7 ≤ 2 * tkp L i) (hN : 7000 ≤ N) (q : tkk L i = 55) : (Out (SBo p (E 0 0)) (SRo w) w L i A B (F_Body_readStatement N o 9 A) (F_MText_statement N o' w B) (fun j _ A' _ B' => (PS p w T L g E Nm Pv nL lc dp ln lk lf hd i cs A B) j A' B')) := by
  have hp := hC.2.1
  have hG := ha.1.1.1
  have hnx := hb.1.gt (show 2 ≤ tkk L i by omega)
  have u0 := nx_pos2 hb.1 hnx (show 40 ≤ tkk L i by omega)
  have hA1 := ha.adv hC hnx
  have hB1 := hb.nx hnx
  have hG1 := hA1.1.1.1
  have h20 : dp ≤ 20 := hC.2.2.2.2.2.1
  have hC1 : dp < 20 → (CX p E Nm nL lc (dp + 1) ln lk lf hd) := fun z => hC.dep (by have := hC.2.2.2.2.1; omega) (by omega)
  rw [sA_55 ha q, sB_55 hb q]
  unfold F_Body_readIf
  rw [ck_t (rS_9 hG), rf_t (rP_9_0 hG), ck_t (rS_1 hG), bC_t (ev_advance ha.1 hnx)]
  refine Out.pre (Out.bind (show _ from jo_want (kw := 3) (jo_expr hN hC) hA1 hB1 hC (show cs + 8 ≤ 2 * tkp L (i + 1) by omega) (by decide)) ?_ ?_) (adv_ex.mono SL_SBo (Nat.le_refl _)) (same.rf.sD (by unfold SRo; omega)) (show i ≤ i + 1 by omega) hnx (by omega)
  rotate_left
  · intro y B' k p0 hz
    obtain ⟨B2, e1, e2, e3⟩ := fz_block (N := N) hZ hz
    exact ⟨(), B2, by rw [bC_t e1, bC_t (fz_accepts e2), if_pos rfl], e2, e3⟩
  intro m v A4 y B4 hij hxa4 hsb4 hQ
  obtain ⟨cs4, rfl, hA4', hB4, h1, hd1, hd2, hcf, hmf, -, hde⟩ := hQ
  have hA4 : (JA p T L g E Nm Pv nL lc dp ln lk lf hd m cs4 A4) := hA4'
  have hpj := pos_j hB4.1
  have hm := hB4.1.2.2.2.2.1
  have hA6 := (hA4.add (v := 3) hC).add (v := 0) hC
  rw [bC_t (ev_jump hA4 hC (by omega))]
  refine Out.pre (Out.bind (jo_inner hZ hZn ih hA6 hB4 hC.1 hp h20 hC1 (by omega)) ?_ ?_) (add_ex.tr add_ex) same.rf (Nat.le_refl _) hm (by omega)
  rotate_left
  · intro y B' k p0 hz
    exact ⟨(), B', by rw [bC_t (fz_accepts hz), if_pos rfl], hz, same.rf⟩
  intro r v A7 y B7 hij hxa7 hsb7 hQ
  obtain ⟨hdp, c7, hA7, hB7, h7, hd3, hd4, hcf7, hmf7, hds7⟩ := hQ
  have hG7 := hA7.1.1.1
  have hr := hB7.1.2.2.2.2.1
  have h81 := (hA7.1.2.2.2.2.2.2.2.2.2.2.2.1 r hr).2.1
  have hpr := pos_j hB7.1
  rw [rf_t (rP_9_0 hG7), ck_t (rS_1 hG7), bnd_t, hA7.1.2.2.2.2.1, show (216 : Int32) = nI (tyK 56) from rfl, ev_accepts hB7.1 (by decide)]
  by_cases qe : tkk L r = 56
  · have hnr := hB7.1.gt (show 2 ≤ tkk L r by omega)
    have u2 := nx_pos2 hB7.1 hnr (show 40 ≤ tkk L r by omega)
    have hA8 := hA7.adv hC hnr
    have hB8 := hB7.nx hnr
    have hG8 := hA8.1.1.1
    have hA10 := (hA8.add (v := 2) hC).add (v := 0) hC
    have hA11 : (JA p T L g E Nm Pv nL lc dp ln lk lf hd (r + 1) (c7 + 2) ((addA (addA (advA A7 L r) p c7 2) p (c7 + 1) 0).sD (p + 191) (cs4 + 1) (nI (c7 + 2)))) := hA10.code hC
    rw [if_pos (show nI (tkk L r) = (56 : Int32) by rw [qe]; rfl), if_pos qe, bC_v, if_neg (show ¬ (1 : Int32) = 0 by decide), rf_t (rP_9_0 hG7), ck_t (rS_1 hG7), bC_t (ev_advance hA7.1 hnr), bC_t (ev_jump hA8 hC (by omega)), rf_t hA10.2.2.1, ck_t (PrS (hA10.pP hC)), bC_t (ev_aim hA10 hC (show cs4 + 1 < c7 + 2 by omega) (by omega)), ← bC_u (m := F_MText_block N o' w _)]
    refine Out.pre (Out.bind (jo_inner hZ hZn ih hA11 hB8 hC.1 hp h20 hC1 (by omega)) ?_ ?_) ((((adv_ex.mono SL_SBo (Nat.le_refl _)).tr add_ex).tr add_ex).sD (decide_eq_true (by omega))) (same.rf.sD (by unfold SRo; omega)) (show r ≤ r + 1 by omega) hnr (by omega)
    rotate_left
    · intro y B' k p0 hz
      exact ⟨(), B', rfl, hz, same.rf⟩
    intro j v A12 y B12 hij hxa12 hsb12 hQ
    obtain ⟨-, c12, hA12, hB12, h12, hd5, hd6, hcf12, hmf12, hds12⟩ := hQ
    have hj := hB12.1.2.2.2.2.1
    have hpj2 := pos_j hB12.1
    have hA13 : (JA p T L g E Nm Pv nL lc dp ln lk lf hd j c12 (A12.sD (p + 191) (c7 + 1) (nI c12))) := hA12.code hC
    rw [rf_t hA12.2.2.1, ck_t (PrS (hA12.pP hC)), bC_t (ev_aim hA12 hC (show c7 + 1 < c12 by omega) (by omega))]
    -- the code behind all
    have cA : ∀ x, x < c7 → x ≠ cs4 + 1 → (A12.sD (p + 191) (c7 + 1) (nI c12)).D (p + 191) x = A7.D (p + 191) x := by
      intro x hx hne
      rw [rdf (by omega), hcf12 x (by omega), rdf hne, code_add, if_neg (by omega), code_add, if_neg (by omega), code_adv hp]
    have cB : ∀ x, x < cs4 → (A12.sD (p + 191) (c7 + 1) (nI c12)).D (p + 191) x = A4.D (p + 191) x := by
      intro x hx
      rw [cA x (by omega) (by omega), hcf7 x (by omega), code_add, if_neg (by omega), code_add, if_neg (by omega)]
    refine Or.inr ⟨_, _, _, _, j, rfl, rfl, Nat.le_refl _, hj, (exA.rf.sD (decide_eq_true (by omega))).mono (fun _ _ h => h) (by omega), same.rf, c12, nL, ln, lk, lf, hA13, hB12, hC, Nat.le_refl _, fun x hx => ⟨rfl, rfl, rfl⟩, by omega, by omega, by omega, fun x hx => ?_, fun t ht => ?_, fun cd mn nu hag => ?_⟩
    · rw [cB x (by omega), hcf x hx, code_adv hp]
    · rw [(hmf12 t (by omega)).1, (hmf12 t (by omega)).2, rdw (by omega), rdw (by omega), (hmf7 t (by omega)).1, (hmf7 t (by omega)).2, (hmf t (by omega)).1, (hmf t (by omega)).2, rdw (by omega), rdw (by omega)]
      exact ⟨rfl, rfl⟩
    · have m7 : ∀ t, t < r → B12.D (w + 7) t = B7.D (w + 7) t ∧ B12.D (w + 5) t = B7.D (w + 5) t := fun t ht => by
        rw [(hmf12 t (by omega)).1, (hmf12 t (by omega)).2, rdw (by omega), rdw (by omega)]; exact ⟨rfl, rfl⟩
      refine DS.ife (m := m) (q := r) (c := c7) (b := cs4) (tyF_k q) (hde cd mn nu ⟨fun x a b => ?_, fun t a b => ?_⟩) ?_ ?_ hdp (hds7 cd mn nu ⟨fun x a b => ?_, fun t a b => ?_⟩) (tyF_k qe) ?_ ?_ (hds12 cd mn nu ⟨fun x a b => ?_, fun t a b => hag.2 t (by omega) b⟩)
      · rw [hag.1 x a (by omega), cB x b]
      · rw [(hag.2 t (by omega) (by omega)).1, (hag.2 t (by omega) (by omega)).2, (m7 t (by omega)).1, (m7 t (by omega)).2]; exact hmf7 t b
      · rw [hag.1 cs4 (by omega) (by omega), cA cs4 (by omega) (by omega), hcf7 cs4 (by omega), code_add, if_neg (by omega), code_add, if_pos rfl]
      · rw [hag.1 (cs4 + 1) (by omega) (by omega), rdf (by omega), hcf12 (cs4 + 1) (by omega), rds]
      · rw [hag.1 x (by omega) (by omega), cA x b (by omega)]
      · rw [(hag.2 t (by omega) (by omega)).1, (hag.2 t (by omega) (by omega)).2]; exact m7 t b
      · rw [hag.1 c7 (by omega) (by omega), rdf (by omega), hcf12 c7 (by omega), rdf (by omega), code_add, if_neg (by omega), code_add, if_pos rfl]
      · rw [hag.1 (c7 + 1) (by omega) (by omega), rds]
      · rw [hag.1 x (by omega) b, rdf (by omega)]
  · have hA8 : (JA p T L g E Nm Pv nL lc dp ln lk lf hd r c7 (A7.sD (p + 191) (cs4 + 1) (nI c7))) := hA7.code hC
    rw [if_neg (show ¬ nI (tkk L r) = (56 : Int32) from fun z => qe ((nI_eq (b := 56) (by omega) (by decide)).mp z)), if_neg qe, bC_v, if_pos (show (0 : Int32) = 0 from rfl), rf_t hA7.2.2.1, ck_t (PrS (hA7.pP hC)), bC_t (ev_aim hA7 hC (show cs4 + 1 < c7 by omega) (by omega))]
    refine Or.inr ⟨_, _, _, _, r, rfl, rfl, Nat.le_refl _, hr, (exA.rf.sD (decide_eq_true (by omega))).mono (fun _ _ h => h) (by omega), same.rf, c7, nL, ln, lk, lf, hA8, hB7, hC, Nat.le_refl _, fun x hx => ⟨rfl, rfl, rfl⟩, by omega, by omega, by omega, fun x hx => ?_, fun t ht => ?_, fun cd mn nu hag => ?_⟩
    · rw [rdf (by omega), hcf7 x (by omega), code_add, if_neg (by omega), code_add, if_neg (by omega), hcf x hx, code_adv hp]
    · rw [(hmf7 t (by omega)).1, (hmf7 t (by omega)).2, (hmf t (by omega)).1, (hmf t (by omega)).2, rdw (by omega), rdw (by omega)]
      exact ⟨rfl, rfl⟩
    · refine DS.iff (m := m) (b := cs4) (tyF_k q) (hde cd mn nu ⟨fun x a b => ?_, fun t a b => ?_⟩) ?_ ?_ hdp (hds7 cd mn nu ⟨fun x a b => ?_, fun t a b => hag.2 t (by omega) b⟩) ?_
      · rw [hag.1 x a (by omega), rdf (by omega), hcf7 x (by omega), code_add, if_neg (by omega), code_add, if_neg (by omega)]
      · rw [(hag.2 t (by omega) (by omega)).1, (hag.2 t (by omega) (by omega)).2]; exact hmf7 t b
      · rw [hag.1 cs4 (by omega) (by omega), rdf (by omega), hcf7 cs4 (by omega), code_add, if_neg (by omega), code_add, if_pos rfl]
      · rw [hag.1 (cs4 + 1) (by omega) (by omega), rds]
      · rw [hag.1 x (by omega) b, rdf (by omega)]
      · unfold tyF
        exact fun z => qe ((hB7.1.ty (k := 56) (by decide)).mp z)
end Par
