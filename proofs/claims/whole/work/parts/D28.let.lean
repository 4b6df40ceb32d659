/-! ===== fail, let ===== -/
section Par
variable {N p w T : Nat} {L : List (Nat × Nat × Int32 × Bool × Nat)} {g : Nat → Nat} {E : Nat → Nat → Nat} {Nm : Nat → Nat → List Nat} {Pv : Nat → Nat → Int32} {nL lc dp : Nat} {ln : Nat → List Nat} {lk lf : Nat → Nat} {hd : Nat → Int32}
/-- the last sign of a statement -/
theorem jo_semi {A B A0 B0 : Hp} {i m cs c2 n2 : Nat} {m2 : Nat → List Nat} {k2 f2 : Nat → Nat} (ha : (JA p T L g E Nm Pv n2 lc dp m2 k2 f2 hd m c2 A)) (hb : (JB w T L g E Nm Pv n2 lc dp m2 k2 f2 hd m B)) (hC2 : (CX p E Nm n2 lc dp m2 k2 f2 hd)) (hn : nL ≤ n2) (heq : ∀ x, x < nL → m2 x = ln x ∧ k2 x = lk x ∧ f2 x = lf x) (him : i ≤ m) (hc : cs ≤ c2) (hco : c2 + 2 * tkp L i ≤ cs + 2 * tkp L m + 1) (hcf : cfr p cs A0 A) (hmf : mfr w i B0 B) (hds : tkk L m = 15 → ∀ cd mn nu, Agr p w cs c2 i m A B cd mn nu → DS (tyF L) mn nu cd E 0 nL lc lk hd dp i (m + 1) cs c2 n2 k2) : (Out (SBo p (E 0 0)) (SRo w) w L m A B (F_Lexer_take N 1 (15 : Int32) A) (F_MText_takes N w (59 : Int32) B) (fun j _ A' _ B' => (PS p w T L g E Nm Pv nL lc dp ln lk lf hd i cs A0 B0) j A' B')) := by
  have hp := hC2.2.1
  refine Out.wk (show _ from jo_take (k := 15) ha hb hC2 (by decide) (by decide)) ?_
  intro j v A' y B' hij hxa hsb hQ
  obtain ⟨rfl, q, rfl, rfl, hA', hB'⟩ := hQ
  have hl := hA'.1.2.2.2.2.2.2.1
  have hp1 := nx_pos hb.1 hl
  refine ⟨c2, n2, m2, k2, f2, hA', hB', hC2, hn, heq, by omega, hc, by omega, fun x hx => ?_, fun t ht => ?_, fun cd mn nu hag => hds q cd mn nu ⟨fun x a b => ?_, fun t a b => ?_⟩⟩
  · rw [code_adv hp]; exact hcf x hx
  · rw [rdw (by omega), rdw (by omega)]; exact hmf t ht
  · rw [hag.1 x a b, code_adv hp]
  · obtain ⟨u1, u2⟩ := hag.2 t a (by omega)
    rw [rdw (by omega)] at u1 u2
    exact ⟨u1, u2⟩
theorem tlB_m {B : Hp} {u n t : Nat} {k f : Int32} : (tlB B w u n k f).D (w + 7) t = (if t = u then nI n else B.D (w + 7) t) ∧ (tlB B w u n k f).D (w + 5) t = B.D (w + 5) t := by
  unfold tlB
  refine ⟨?_, ?_⟩
  · rw [rdw (by omega), rdw (by omega), rdw (by omega), rdw (by omega)]
    by_cases z : t = u
    · rw [z, rds, if_pos rfl]
    · rw [rdf z, if_neg z]
  · rw [rdw (by omega), rdw (by omega), rdw (by omega), rdw (by omega), rdw (by omega)]
theorem tyF_k {i k : Nat} (h : tkk L i = k) : tyF L i = nI (tyK k) := by unfold tyF; rw [h]
theorem jo_fail {A B : Hp} {i cs : Nat} {o : Orc_BodyS} {o' : Orc_TextS} (ha : (JA p T L g E Nm Pv nL lc dp ln lk lf hd i cs A)) (hb : (JB w T L g E Nm Pv nL lc dp ln lk lf hd i B)) (hC : (CX p E Nm nL lc dp ln lk lf hd)) (hcs : cs + 7 ≤ 2 * tkp L i) (q : tkk L i = 70) : (Out (SBo p (E 0 0)) (SRo w) w L i A B (F_Body_readStatement N o 9 A) (F_MText_statement N o' w B) (fun j _ A' _ B' => (PS p w T L g E Nm Pv nL lc dp ln lk lf hd i cs A B) j A' B')) := by
  have hp := hC.2.1
  have hG := ha.1.1.1
  have hnx := hb.1.gt (show 2 ≤ tkk L i by omega)
  have hpj := pos_j hb.1
  obtain ⟨q1, q2, q3⟩ := pos_lt hb.1 (show 2 ≤ tkk L i by omega)
  have hA1 := ha.adv hC hnx
  have hB1 := hb.nx hnx
  have hA2 := hA1.add (v := 11) hC
  have hG2 := hA2.1.1.1
  rw [sA_70 ha q, sB_70 hb q, bC_t (ev_advance ha.1 hnx), rf_t hA1.2.2.1, ck_t (PrS (hA1.pP hC)), bC_t (ev_add hA1 (hA1.pP hC) (by omega)), rf_t (rP_9_0 hG2), ck_t (rS_1 hG2)]
  refine Out.pre (jo_semi (i := i) (cs := cs) (A0 := A) (B0 := B) hA2 hB1 hC (Nat.le_refl _) (fun x hx => ⟨rfl, rfl, rfl⟩) (by omega) (by omega) (by omega) (fun x hx => ?_) (fun t ht => ?_) (fun q4 cd mn nu hag => DS.fai (tyF_k q) (tyF_k q4) ?_)) ((adv_ex.mono SL_SBo (Nat.le_refl _)).tr add_ex) (same.rf.sD (by unfold SRo; omega)) (show i ≤ i + 1 by omega) hnx (by omega)
  · rw [code_add, if_neg (by omega), code_adv hp]
  · rw [rdw (by omega), rdw (by omega)]; exact ⟨rfl, rfl⟩
  · rw [hag.1 cs (by omega) (by omega), code_add, if_pos rfl]
theorem jo_let {A B : Hp} {i cs : Nat} {o : Orc_BodyS} {o' : Orc_TextS} (ha : (JA p T L g E Nm Pv nL lc dp ln lk lf hd i cs A)) (hb : (JB w T L g E Nm Pv nL lc dp ln lk lf hd i B)) (hC : (CX p E Nm nL lc dp ln lk lf hd)) (hcs : cs + 7 ≤ 2 * tkp L i) (hN : 7000 ≤ N) (q : tkk L i = 54) : (Out (SBo p (E 0 0)) (SRo w) w L i A B (F_Body_readStatement N o 9 A) (F_MText_statement N o' w B) (fun j _ A' _ B' => (PS p w T L g E Nm Pv nL lc dp ln lk lf hd i cs A B) j A' B')) := by
  have hp := hC.2.1
  have hG := ha.1.1.1
  have hnx := hb.1.gt (show 2 ≤ tkk L i by omega)
  have hA1 := ha.adv hC hnx
  have hB1 := hb.nx hnx
  have hG1 := hA1.1.1.1
  have h56 : E 0 0 ≤ 56 := hC.1.2.2.2.2.2.2.2.2.2.2.2.2.2.1
  rw [sA_54 ha q, sB_54 hb q]
  unfold F_Body_readLet
  simp only [bT_u]
  rw [ck_t (rS_9 hG), rf_t (rP_9_0 hG), ck_t (rS_1 hG), bC_t (ev_advance ha.1 hnx)]
  refine Out.pre (Out.bind (jo_new hA1 hB1 hC hN) ?_ ?_) (adv_ex.mono SL_SBo (Nat.le_refl _)) (same.rf.sD (by unfold SRo; omega)) (show i ≤ i + 1 by omega) hnx (by omega)
  rotate_left
  · intro y B' k p0 hz
    exact ⟨(), B', by rw [bC_t (fz_takes hz), bC_t (ZO_50 (by omega) _ _ _ hz).1, bC_t (fz_tells hz), fz_takes hz], hz, same.rf⟩
  intro j v A2 y B2 hij hxa hsb hQ
  obtain ⟨rfl, q2, rfl, rfl, hA2, hB2, hco2, h12, hnm, s, rfl, hs1, hs2, hs3⟩ := hQ
  have hG2 := hA2.1.1.1
  rw [on_t, rf_t (rP_9_0 hG2), ck_t (rS_1 hG2)]
  refine Out.bind (show _ from jo_take (k := 17) hA2 hB2 hC (by decide) (by decide)) ?_ ?_
  rotate_left
  · intro y B' k p0 hz
    exact ⟨(), B', by rw [bC_t (ZO_50 (by omega) _ _ _ hz).1, bC_t (fz_tells hz), fz_takes hz], hz, same.rf⟩
  intro j v A3 y B3 hij hxa3 hsb hQ
  obtain ⟨rfl, q3, rfl, rfl, hA3, hB3⟩ := hQ
  have hl3 := hB3.1.2.2.2.2.1
  have u0 : tkp L i + 1 ≤ tkp L (i + 1) := nx_pos hb.1 (by omega)
  have u1 : tkp L (i + 1) + 1 ≤ tkp L (i + 2) := nx_pos hb.1 (by omega)
  have u2 : tkp L (i + 2) + 1 ≤ tkp L (i + 3) := nx_pos hb.1 (by omega)
  refine Out.bind (jo_any (jo_expr hN hC) hA3 hB3 (show cs + 8 ≤ 2 * tkp L (i + 3) by omega)) ?_ ?_
  rotate_left
  · intro y B' k p0 hz
    exact ⟨(), B', by rw [bC_t (fz_tells hz), fz_takes hz], hz, same.rf⟩
  intro j v A4 y B4 hij hxa4 hsb hQ
  obtain ⟨k, cs4, rfl, rfl, hk, hA4, hB4, hlt, hd1, hd2, hcf, hmf, hde⟩ := hQ
  have hpj := pos_j hB4.1
  have hd2' : cs4 + 2 * tkp L (i + 3) ≤ cs + 2 * tkp L j := hd2
  have hA5 := hA4.add (v := 34) hC
  have hA6 := hA5.add (v := nI nL) hC
  have hG6 := hA6.1.1.1
  have hl4 := hB4.1.2.2.2.2.1
  have hle2 := hG2.len
  have hx24 := (hxa3.tr hxa4).tr ((add_ex (A := A4) (p := p) (n := E 0 0) (cs := cs4) (v := 34)).tr (add_ex (v := nI nL) (cs := cs4 + 1)))
  obtain ⟨t1, t2⟩ := hx24.str (SBo_lt (by omega)) hs1 hs2 hs3
  have hC7 := hC.tell (k := k) (f := 0) (nm := nmT g L (i + 1)) h12 (by omega) (by omega) hnm
  have hA7 := hA6.tell (k := k) (f := 0) hC h12 t1 hs2 t2
  have hG7 := hA7.1.1.1
  have hB7 := hB4.tell (k := k) (f := 0) (hB4.1.tn (show i + 1 < L.length by omega))
  rw [rf_t hA4.2.2.1, ck_t (PrS (hA4.pP hC)), bC_t (ev_add hA4 (hA4.pP hC) (by omega)), rf_t hA5.2.2.1, bnd_t, hA5.2.2.2.2.1, ck_t (PrS (hA5.pP hC)), bC_t (ev_add hA5 (hA5.pP hC) (by omega)), bC_t (show F_Body_tellLocal N 9 s (5 : Int32) (nI k) _ = _ from ev_tellLocal (f := 0) hA6 hC h12), rf_t (rP_9_0 hG7), ck_t (rS_1 hG7), bC_t (show F_MText_tells N w (nI (i + 1)) (nI k) (0 : Int32) B4 = _ from ev_tells (f := 0) hB4 h12 (by have := hB4.1.2.2.2.2.2.2.1; have := hB4.1.2.2.2.2.2.2.2.1; omega) (by decide))]
  have tc : ∀ x, (tlA (addA (addA A4 p cs4 34) p (cs4 + 1) (nI nL)) p (p + 2 + (E 0 0 + nL)) s nL (E 0 0 + nL + 1) (nI (5 + 0)) (nI k)).D (p + 191) x = (addA (addA A4 p cs4 34) p (cs4 + 1) (nI nL)).D (p + 191) x := by
    intro x
    unfold tlA
    rw [rdw (by omega), rdw (by omega), rdw (by omega), rdw (by omega), rdw (by omega)]
    rfl
  have tm : ∀ t, (tlB B4 w (i + 1) nL (nI k) (nI 0)).D (w + 7) t = (if t = i + 1 then nI nL else B4.D (w + 7) t) ∧ (tlB B4 w (i + 1) nL (nI k) (nI 0)).D (w + 5) t = B4.D (w + 5) t := by
    intro t
    exact tlB_m
  refine Out.pre (jo_semi (i := i) (cs := cs) (A0 := A) (B0 := B) hA7 hB7 hC7 (by omega) (fun x hx => ⟨upn_o (by omega), up1_o (by omega), up1_o (by omega)⟩) (by omega) (by omega) (by omega) (fun x hx => ?_) (fun t ht => ?_) (fun q4 cd mn nu hag => ?_)) ((add_ex.tr add_ex).tr ((tl_ex (by omega) (by omega)).mono SJ_SBo (Nat.le_refl _))) tlB_sm (Nat.le_refl _) hl4 (by omega)
  · rw [tc, code_add, if_neg (by omega), code_add, if_neg (by omega), hcf x hx, code_adv hp, hco2, code_adv hp]
  · rw [(tm t).1, (tm t).2, if_neg (by omega), (hmf t (by omega)).1, (hmf t (by omega)).2, rdw (by omega), rdw (by omega), rdw (by omega), rdw (by omega), rdw (by omega), rdw (by omega)]
    exact ⟨rfl, rfl⟩
  · have c0 := hag.1 cs4 (by omega) (by omega)
    rw [tc, code_add, if_neg (by omega), code_add, if_pos rfl] at c0
    have c1 := hag.1 (cs4 + 1) (by omega) (by omega)
    rw [tc, code_add, if_pos rfl] at c1
    have m1 := (hag.2 (i + 1) (by omega) (by omega)).1
    rw [(tm _).1, if_pos rfl] at m1
    refine DS.lt (tyF_k q) (tyF_k q2) m1 h12 (tyF_k q3) (hde cd mn nu ⟨fun x a b => ?_, fun t a b => ?_⟩) (tyF_k q4) c0 c1
    · rw [hag.1 x a (by omega), tc, code_add, if_neg (by omega), code_add, if_neg (by omega)]
    · obtain ⟨v1, v2⟩ := hag.2 t (by omega) b
      rw [(tm t).1, if_neg (by omega)] at v1
      rw [(tm t).2] at v2
      exact ⟨v1, v2⟩
end Par
