/-! ===== drop, give, take, put ===== -/
section Par
variable {N p w T : Nat} {L : List (Nat × Nat × Int32 × Bool × Nat)} {g : Nat → Nat} {E : Nat → Nat → Nat} {Nm : Nat → Nat → List Nat} {Pv : Nat → Nat → Int32} {nL lc dp : Nat} {ln : Nat → List Nat} {lk lf : Nat → Nat} {hd : Nat → Int32}
theorem jo_drop {A B : Hp} {i cs : Nat} {o : Orc_BodyS} {o' : Orc_TextS} (ha : (JA p T L g E Nm Pv nL lc dp ln lk lf hd i cs A)) (hb : (JB w T L g E Nm Pv nL lc dp ln lk lf hd i B)) (hC : (CX p E Nm nL lc dp ln lk lf hd)) (hcs : cs + 7 ≤ 2 * tkp L i) (hN : 7000 ≤ N) (q : tkk L i = 63) : (Out (SBo p (E 0 0)) (SRo w) w L i A B (F_Body_readStatement N o 9 A) (F_MText_statement N o' w B) (fun j _ A' _ B' => (PS p w T L g E Nm Pv nL lc dp ln lk lf hd i cs A B) j A' B')) := by
  have hp := hC.2.1
  have hG := ha.1.1.1
  have hnx := hb.1.gt (show 2 ≤ tkk L i by omega)
  have u0 := nx_pos2 hb.1 hnx (show 40 ≤ tkk L i by omega)
  have hA1 := ha.adv hC hnx
  have hB1 := hb.nx hnx
  rw [sA_63 ha q, sB_63 hb q]
  unfold F_Body_readTargeted F_MText_commands B_MText_commands_28 B_MText_commands_104 B_Body_readTargeted_68
  simp only [bC_u, bT_u]
  rw [ck_t (rS_9 hG), rf_t (rP_9_0 hG), ck_t (rS_1 hG), bC_t (ev_advance ha.1 hnx), if_neg (show ¬ (223 : Int32) = 229 by decide), ck_t (TS hB1.1.1.1)]
  refine Out.pre (Out.bind (show _ from jo_inP (kw := 4) (ZO_50 (by omega)) (fun z => jo_expr hN (hC.dep (by have := hC.2.2.2.2.1; omega) (by omega))) hA1 hB1 hC (show cs + 8 ≤ 2 * tkp L (i + 1) by omega) (by decide) (by decide)) ?_ ?_) (adv_ex.mono SL_SBo (Nat.le_refl _)) (same.rf.sD (by unfold SRo; omega)) (show i ≤ i + 1 by omega) hnx (by omega)
  rotate_left
  · intro y B' k p0 hz
    exact ⟨(), B', by rw [if_neg (by decide), if_neg (by decide), if_neg (by decide), ck_t (TS hz.1), fz_takes hz], hz, same.rf⟩
  intro j v A2 y B2 hij hxa2 hsb hQ
  obtain ⟨cs2, m, rfl, rfl, hA2, hB2, h1, q12, q13, hdp, hd1, hd2, hcf, hmf, hde⟩ := hQ
  have hl2 := hB2.1.2.2.2.2.1
  have hpj := pos_j hB2.1
  have hA3 := hA2.add (v := 21) hC
  have hG3 := hA3.1.1.1
  rw [if_pos trivial, rf_t hA2.2.2.1, ck_t (PrS (hA2.pP hC)), bC_t (ev_add hA2 (hA2.pP hC) (by omega)), ck_t (rS_9 hG3), rf_t (rP_9_0 hG3), ck_t (rS_1 hG3), if_neg (show ¬ (223 : Int32) = 224 by decide), if_neg (show ¬ (223 : Int32) = 225 by decide), if_neg (show ¬ (223 : Int32) = 226 by decide), ck_t (TS hB2.1.1.1)]
  refine Out.pre (jo_semi (i := i) (cs := cs) (A0 := A) (B0 := B) hA3 hB2 hC (Nat.le_refl _) (fun x hx => ⟨rfl, rfl, rfl⟩) (by omega) (by omega) (by omega) (fun x hx => ?_) (fun t ht => ?_) (fun q4 cd mn nu hag => ?_)) add_ex same.rf (Nat.le_refl _) hl2 (by omega)
  · rw [code_add, if_neg (by omega), hcf x hx, code_adv hp]
  · rw [(hmf t (by omega)).1, (hmf t (by omega)).2, rdw (by omega), rdw (by omega)]; exact ⟨rfl, rfl⟩
  · refine DS.drp (m := m) (b := cs2) (tyF_k q) (tyF_k q12) hdp (hde cd mn nu ⟨fun x a b => ?_, fun t a b => hag.2 t (by omega) (by omega)⟩) (tyF_k q13) (tyF_k q4) ?_
    · rw [hag.1 x a (by omega), code_add, if_neg (by omega)]
    · rw [hag.1 cs2 (by omega) (by omega), code_add, if_pos rfl]
theorem jo_gvtk {A B : Hp} {i cs : Nat} {o : Orc_BodyS} {o' : Orc_TextS} (ha : (JA p T L g E Nm Pv nL lc dp ln lk lf hd i cs A)) (hb : (JB w T L g E Nm Pv nL lc dp ln lk lf hd i B)) (hC : (CX p E Nm nL lc dp ln lk lf hd)) (hcs : cs + 7 ≤ 2 * tkp L i) (hN : 7000 ≤ N) (q : tkk L i = 64 ∨ tkk L i = 65) : (Out (SBo p (E 0 0)) (SRo w) w L i A B (F_Body_readStatement N o 9 A) (F_MText_statement N o' w B) (fun j _ A' _ B' => (PS p w T L g E Nm Pv nL lc dp ln lk lf hd i cs A B) j A' B')) := by
  have hp := hC.2.1
  have hG := ha.1.1.1
  have hnx := hb.1.gt (show 2 ≤ tkk L i by omega)
  have u0 := nx_pos2 hb.1 hnx (show 40 ≤ tkk L i by omega)
  have hA1 := ha.adv hC hnx
  have hB1 := hb.nx hnx
  have hG1 := hA1.1.1.1
  have hW := hC.1.2.2.2.2.2.2.2.2.2.2.2.2.2.2
  obtain ⟨op, wd, hop, hty, eA, eB⟩ : ∃ op wd : Nat, (wd, op) ∈ [(224, 22), (225, 23)] ∧ tyF L i = nI wd ∧ (F_Body_readStatement N o 9 A = bT (F_Body_inParens N (X_BodyE N 140) 9 (4 : Int32) (advA A L i)) fun v9 H10 => bT (F_Body_numberHere N 9 (0 : Int32) H10) fun v14 H15 => rf (H15.P 9 1) fun a17 => ck (H15.sh[a17]? = some (4, 0)) <| bC (F_Program_add N a17 (nI op) H15) fun v44 H45 => ck (H45.sh[9]? = some (6, 0)) <| rf (H45.P 9 1) fun a47 => ck (H45.sh[a47]? = some (4, 0)) <| bC (F_Program_add N a47 v14 H45) fun v51 H52 => ck (H52.sh[9]? = some (6, 0)) <| rf (H52.P 9 0) fun a20 => ck (H52.sh[a20]? = some (1, 0)) <| F_Lexer_take N a20 (15 : Int32) H52) ∧ (F_MText_statement N o' w B = bC (F_MText_wantsIn N (X_TextE N 50) w (4 : Int32) (B.sD w 11 (nI (i + 1)))) fun v4 H5 => ck (H5.sh[w]? = some (14, 0)) <| bC (bC (F_MText_name N w H5) (fun y H => F_MText_numberOf N w y (nI (0 + 2)) H)) fun v12 H13 => ck (H13.sh[w]? = some (14, 0)) <| F_MText_takes N w (59 : Int32) H13) := by
    rcases q with q | q
    · refine ⟨22, 224, by decide, tyF_k q, ?_, ?_⟩
      · rw [sA_64 ha q]
        unfold F_Body_readTargeted B_Body_readTargeted_55 B_Body_readTargeted_68
        simp only [bT_u]
        rw [ck_t (rS_9 hG), rf_t (rP_9_0 hG), ck_t (rS_1 hG), bC_t (ev_advance ha.1 hnx)]
        rfl
      · rw [sB_64 hb q]
        unfold F_MText_commands B_MText_commands_28 B_MText_commands_49 B_MText_commands_104
        simp only [bC_u, bC_as]
        rw [if_neg (show ¬ (224 : Int32) = 229 by decide), ck_t (TS hB1.1.1.1)]
        rfl
    · refine ⟨23, 225, by decide, tyF_k q, ?_, ?_⟩
      · rw [sA_65 ha q]
        unfold F_Body_readTargeted B_Body_readTargeted_55 B_Body_readTargeted_68
        simp only [bT_u]
        rw [ck_t (rS_9 hG), rf_t (rP_9_0 hG), ck_t (rS_1 hG), bC_t (ev_advance ha.1 hnx)]
        rfl
      · rw [sB_65 hb q]
        unfold F_MText_commands B_MText_commands_28 B_MText_commands_49 B_MText_commands_104
        simp only [bC_u, bC_as]
        rw [if_neg (show ¬ (225 : Int32) = 229 by decide), ck_t (TS hB1.1.1.1)]
        rfl
  rw [eA, eB]
  refine Out.pre (Out.bind (show _ from jo_inP (kw := 4) (ZO_50 (by omega)) (fun z => jo_expr hN (hC.dep (by have := hC.2.2.2.2.1; omega) (by omega))) hA1 hB1 hC (show cs + 8 ≤ 2 * tkp L (i + 1) by omega) (by decide) (by decide)) ?_ ?_) (adv_ex.mono SL_SBo (Nat.le_refl _)) (same.rf.sD (by unfold SRo; omega)) (show i ≤ i + 1 by omega) hnx (by omega)
  rotate_left
  · intro y B' k p0 hz
    exact ⟨(), B', by rw [ck_t (TS hz.1), bC_as, bC_t (fz_name hz), bC_t (fz_numberOf hz), ck_t (TS hz.1), fz_takes hz], hz, same.rf⟩
  intro j v A2 y B2 hij hxa2 hsb hQ
  obtain ⟨cs2, m, rfl, rfl, hA2, hB2, h1, q12, q13, hdp, hd1, hd2, hcf, hmf, hde⟩ := hQ
  rw [ck_t (TS hB2.1.1.1)]
  refine Out.bind (show _ from jo_number (so := 0) hA2 hB2 hC hN (by decide)) ?_ ?_
  rotate_left
  · intro y B' k p0 hz
    exact ⟨(), B', by rw [ck_t (TS hz.1), fz_takes hz], hz, same.rf⟩
  intro j v A3 y B3 hij hxa3 hsb3 hQ
  obtain ⟨rfl, q2, hA3, hB3, hco3, k, hk1, hk2, rfl, rfl, hBe⟩ := hQ
  have hc : E 3 k < E 4 0 := (hW k hk1).2.2.1 hk2
  have hl3 := hB3.1.2.2.2.2.1
  have hpj := pos_j hB3.1
  have u1 := nx_pos hb.1 hl3
  have hA4 := hA3.add (v := nI op) hC
  have hA5 := hA4.add (v := nI (E 3 k)) hC
  have hG4 := hA4.1.1.1
  have hG5 := hA5.1.1.1
  rw [rf_t hA3.2.2.1, ck_t (PrS (hA3.pP hC)), bC_t (ev_add hA3 (hA3.pP hC) (by omega)), ck_t (rS_9 hG4), rf_t hA4.2.2.1, ck_t (PrS (hA4.pP hC)), bC_t (ev_add hA4 (hA4.pP hC) (by omega)), ck_t (rS_9 hG5), rf_t (rP_9_0 hG5), ck_t (rS_1 hG5), ck_t (TS hB3.1.1.1)]
  refine Out.pre (jo_semi (i := i) (cs := cs) (A0 := A) (B0 := B) hA5 hB3 hC (Nat.le_refl _) (fun x hx => ⟨rfl, rfl, rfl⟩) (by omega) (by omega) (by omega) (fun x hx => ?_) (fun t ht => ?_) (fun q4 cd mn nu hag => ?_)) (add_ex.tr add_ex) same.rf (Nat.le_refl _) hl3 (by omega)
  · rw [code_add, if_neg (by omega), code_add, if_neg (by omega), hco3, hcf x hx, code_adv hp]
  · rw [hBe, rdf (by omega), rdw (by omega), rdw (by omega), rdw (by omega), (hmf t (by omega)).1, (hmf t (by omega)).2, rdw (by omega), rdw (by omega)]; exact ⟨rfl, rfl⟩
  · have m1 := (hag.2 (m + 1) (by omega) (by omega)).1
    rw [hBe, rds] at m1
    refine DS.gvt (m := m) (b := cs2) hop hty (tyF_k q12) hdp (hde cd mn nu ⟨fun x a b => ?_, fun t a b => ?_⟩) (tyF_k q13) m1 hc (tyF_k q4) ?_ ?_
    · rw [hag.1 x a (by omega), code_add, if_neg (by omega), code_add, if_neg (by omega), hco3]
    · obtain ⟨v1, v2⟩ := hag.2 t (by omega) (by omega)
      rw [hBe, rdf (by omega), rdw (by omega)] at v1
      rw [hBe, rdw (by omega), rdw (by omega)] at v2
      exact ⟨v1, v2⟩
    · rw [hag.1 cs2 (by omega) (by omega), code_add, if_neg (by omega), code_add, if_pos rfl]
    · rw [hag.1 (cs2 + 1) (by omega) (by omega), code_add, if_pos rfl]
theorem jo_put {A B : Hp} {i cs : Nat} {o : Orc_BodyS} {o' : Orc_TextS} (ha : (JA p T L g E Nm Pv nL lc dp ln lk lf hd i cs A)) (hb : (JB w T L g E Nm Pv nL lc dp ln lk lf hd i B)) (hC : (CX p E Nm nL lc dp ln lk lf hd)) (hcs : cs + 7 ≤ 2 * tkp L i) (hN : 7000 ≤ N) (q : tkk L i = 66) : (Out (SBo p (E 0 0)) (SRo w) w L i A B (F_Body_readStatement N o 9 A) (F_MText_statement N o' w B) (fun j _ A' _ B' => (PS p w T L g E Nm Pv nL lc dp ln lk lf hd i cs A B) j A' B')) := by
  have hp := hC.2.1
  have hG := ha.1.1.1
  have hnx := hb.1.gt (show 2 ≤ tkk L i by omega)
  have u0 := nx_pos2 hb.1 hnx (show 40 ≤ tkk L i by omega)
  have hA1 := ha.adv hC hnx
  have hB1 := hb.nx hnx
  have hG1 := hA1.1.1.1
  have hW := hC.1.2.2.2.2.2.2.2.2.2.2.2.2.2.2
  have eB : F_MText_statement N o' w B = bC (F_MText_wantsIn N (X_TextE N 50) w (4 : Int32) (B.sD w 11 (nI (i + 1)))) fun v4 H5 => ck (H5.sh[w]? = some (14, 0)) <| bC (bC (F_MText_name N w H5) (fun y H => F_MText_numberOf N w y (nI (0 + 2)) H)) fun v12 H13 => bC (F_MText_takes N w (46 : Int32) H13) fun v24 H25 => bC (F_MText_memberName N w v12 H25) fun v27 H28 => bC (F_MText_takes N w (61 : Int32) H28) fun v30 H31 => bnd ((H31.D w 9)) fun x32 => if x32 = (0 : Int32) then rf (H31.P w 19) fun a34 => ar H31 100 a34 fun n36 => ck (inb v27 n36) <| bnd ((H31.D a34 (v27).toNatClampNeg)) fun x39 => bC (F_MText_plain N x39 H31) fun v41 H42 => bC (F_MText_wants N (X_TextE N 50) w v41 H42) fun v44 H45 => B_MText_commands_104 N w (226 : Int32) H45 else B_MText_commands_104 N w (226 : Int32) H31 := by
    rw [sB_66 hb q]
    unfold F_MText_commands B_MText_commands_28 B_MText_commands_49
    simp only [bC_as]
    rw [if_neg (show ¬ (226 : Int32) = 229 by decide), ck_t (TS hB1.1.1.1)]
    rfl
  have fz104 : ∀ B' k p0, Zf B' w k p0 → ∃ B2, B_MText_commands_104 N w (226 : Int32) B' = some ((), B2) ∧ Zf B2 w k p0 ∧ same (SRo w) B' B2 := by
    intro B' k p0 hz
    exact ⟨B', by unfold B_MText_commands_104; rw [ck_t (TS hz.1), bC_t (fz_takes hz)], hz, same.rf⟩
  have fzm : ∀ c B' k p0, Zf B' w k p0 → ∃ B2, (bC (F_MText_takes N w (46 : Int32) B') fun v24 H25 => bC (F_MText_memberName N w c H25) fun v27 H28 => bC (F_MText_takes N w (61 : Int32) H28) fun v30 H31 => bnd ((H31.D w 9)) fun x32 => if x32 = (0 : Int32) then rf (H31.P w 19) fun a34 => ar H31 100 a34 fun n36 => ck (inb v27 n36) <| bnd ((H31.D a34 (v27).toNatClampNeg)) fun x39 => bC (F_MText_plain N x39 H31) fun v41 H42 => bC (F_MText_wants N (X_TextE N 50) w v41 H42) fun v44 H45 => B_MText_commands_104 N w (226 : Int32) H45 else B_MText_commands_104 N w (226 : Int32) H31) = some ((), B2) ∧ Zf B2 w k p0 ∧ same (SRo w) B' B2 := by
    intro c B' k p0 hz
    obtain ⟨y, B2, e1, e2, e3⟩ := fz_memberName (N := N) (c := c) hz
    obtain ⟨B3, f1, f2, f3⟩ := fz104 B2 k p0 e2
    exact ⟨B3, by rw [bC_t (fz_takes hz), bC_t e1, bC_t (fz_takes e2), bnd_t, if_neg e2.n0, f1], f2, e3.tr f3⟩
  rw [sA_66 ha q, eB]
  unfold F_Body_readPut
  rw [ck_t (rS_9 hG), rf_t (rP_9_0 hG), ck_t (rS_1 hG), bC_t (ev_advance ha.1 hnx)]
  refine Out.pre (Out.bind (show _ from jo_inP (kw := 4) (ZO_50 (by omega)) (fun z => jo_expr hN (hC.dep (by have := hC.2.2.2.2.1; omega) (by omega))) hA1 hB1 hC (show cs + 8 ≤ 2 * tkp L (i + 1) by omega) (by decide) (by decide)) ?_ ?_) (adv_ex.mono SL_SBo (Nat.le_refl _)) (same.rf.sD (by unfold SRo; omega)) (show i ≤ i + 1 by omega) hnx (by omega)
  rotate_left
  · intro y B' k p0 hz
    obtain ⟨B2, e1, e2, e3⟩ := fzm 0 B' k p0 hz
    exact ⟨(), B2, by rw [ck_t (TS hz.1), bC_as, bC_t (fz_name hz), bC_t (fz_numberOf hz), e1], e2, e3⟩
  intro j v A2 y B2 hij hxa2 hsb hQ
  obtain ⟨cs2, m, rfl, rfl, hA2, hB2, h1, q12, q13, hdp, hd1, hd2, hcf, hmf, hde⟩ := hQ
  rw [ck_t (TS hB2.1.1.1)]
  refine Out.bind (show _ from jo_number (so := 0) hA2 hB2 hC hN (by decide)) ?_ ?_
  rotate_left
  · intro y B' k p0 hz
    obtain ⟨B2, e1, e2, e3⟩ := fzm y B' k p0 hz
    exact ⟨(), B2, e1, e2, e3⟩
  intro j v A3 y B3 hij hxa3 hsb3 hQ
  obtain ⟨rfl, q2, hA3, hB3, hco3, k, hk1, hk2, rfl, rfl, hBe⟩ := hQ
  have hc : E 3 k < E 4 0 := (hW k hk1).2.2.1 hk2
  have hl3 := hB3.1.2.2.2.2.1
  have u1 := nx_pos hb.1 hl3
  refine jo_gm hA3 hB3 hC hN hc (by omega) ?_ fz104
  intro j x cs4 A4 B4 hm hA4 hB4 h4 t1 t2 t3 hd3 hd4 hcf4 hmf4 h6 hmn hde4
  have hG4 := hA4.1.1.1
  have hh : hld (E 6 x) ≤ 1 := by unfold hld; split <;> omega
  unfold B_MText_commands_104
  rw [rf_t (rP_9_0 hG4), ck_t (rS_1 hG4), ck_t (TS hB4.1.1.1)]
  refine Out.bind (show _ from jo_take (k := 15) hA4 hB4 hC (by decide) (by decide)) ?_ (fun y B' k p0 hz => ⟨(), B', rfl, hz, same.rf⟩)
  intro j2 v A5 y B5 hij5 hxa5 hsb5 hQ
  obtain ⟨rfl, q15, rfl, rfl, hA5, hB5⟩ := hQ
  have hl5 := hB5.1.2.2.2.2.1
  have hpj := pos_j hB5.1
  have u2 := nx_pos hb.1 hl5
  have hA6 := hA5.add (v := 24) hC
  have hA7 := hA6.add (v := nI (E 3 k)) hC
  have hA8 := hA7.add (v := nI x) hC
  rw [rf_t hA5.2.2.1, ck_t (PrS (hA5.pP hC)), bC_t (ev_add hA5 (hA5.pP hC) (by omega)), rf_t hA6.2.2.1, ck_t (PrS (hA6.pP hC)), bC_t (ev_add hA6 (hA6.pP hC) (by omega)), rf_t hA7.2.2.1, ck_t (PrS (hA7.pP hC)), bC_t (ev_add hA7 (hA7.pP hC) (by omega))]
  have cA : ∀ y, y < cs4 + hld (E 6 x) → (addA (addA (addA (advA A4 L j) p (cs4 + hld (E 6 x)) 24) p (cs4 + hld (E 6 x) + 1) (nI (E 3 k))) p (cs4 + hld (E 6 x) + 1 + 1) (nI x)).D (p + 191) y = A4.D (p + 191) y := fun y hy => by
    rw [code_add, if_neg (by omega), code_add, if_neg (by omega), code_add, if_neg (by omega), code_adv hp]
  refine Or.inr ⟨_, _, _, _, j + 1, rfl, rfl, Nat.le_refl _, hl5, ((add_ex.tr add_ex).tr add_ex).mono (fun _ _ h => h) (by omega), same.rf, cs4 + hld (E 6 x) + 3, nL, ln, lk, lf, hA8, hB5, hC, Nat.le_refl _, fun x hx => ⟨rfl, rfl, rfl⟩, by omega, by omega, by omega, fun y hy => ?_, fun t ht => ?_, fun cd mn nu hag => ?_⟩
  · rw [cA y (by omega), hcf4 y (by omega), hco3, hcf y hy, code_adv hp]
  · rw [rdw (by omega), rdw (by omega), (hmf4 t (by omega)).1, (hmf4 t (by omega)).2, hBe, rdf (by omega), rdw (by omega), rdw (by omega), rdw (by omega), (hmf t (by omega)).1, (hmf t (by omega)).2, rdw (by omega), rdw (by omega)]; exact ⟨rfl, rfl⟩
  · have m1 := (hag.2 (m + 1) (by omega) (by omega)).1
    rw [rdw (by omega), (hmf4 (m + 1) (by omega)).1, hBe, rds] at m1
    have m2 := (hag.2 (m + 3) (by omega) (by omega)).1
    rw [rdw (by omega), show B4.D (w + 7) (m + 3) = nI x from hmn] at m2
    refine DS.pt (m := m) (b := cs2) (b' := cs4) (x := x) (tyF_k q) (tyF_k q12) hdp (hde cd mn nu ⟨fun y a b => ?_, fun t a b => ?_⟩) (tyF_k q13) m1 (tyF_k t1) m2 hm (tyF_k t3) (hde4 cd mn nu ⟨fun y a b => ?_, fun t a b => ?_⟩) (fun z => ?_) (tyF_k q15) ?_ ?_ ?_
    · rw [hag.1 y a (by omega), cA y (by omega), hcf4 y b, hco3]
    · obtain ⟨v1, v2⟩ := hag.2 t (by omega) (by omega)
      rw [rdw (by omega), (hmf4 t (by omega)).1, hBe, rdf (by omega), rdw (by omega)] at v1
      rw [rdw (by omega), (hmf4 t (by omega)).2, hBe, rdw (by omega), rdw (by omega)] at v2
      exact ⟨v1, v2⟩
    · rw [hag.1 y (by omega) (by omega), cA y (by omega)]
    · obtain ⟨v1, v2⟩ := hag.2 t (by omega) (by omega)
      rw [rdw (by omega)] at v1 v2
      exact ⟨v1, v2⟩
    · have hh1 : hld (E 6 x) = 1 := if_pos z
      rw [hag.1 cs4 (by omega) (by omega), cA cs4 (by omega)]
      exact h6 z
    · rw [hag.1 _ (by omega) (by omega), code_add, if_neg (by omega), code_add, if_neg (by omega), code_add, if_pos rfl]
    · rw [hag.1 _ (by omega) (by omega), code_add, if_neg (by omega), code_add, if_pos rfl]
    · rw [hag.1 _ (by omega) (by omega), code_add, if_pos rfl]
end Par
