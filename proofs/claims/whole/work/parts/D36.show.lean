/-! ===== show, drop, give, take, put ===== -/
section Par
variable {N p w T : Nat} {L : List (Nat × Nat × Int32 × Bool × Nat)} {g : Nat → Nat} {E : Nat → Nat → Nat} {Nm : Nat → Nat → List Nat} {Pv : Nat → Nat → Int32} {nL lc dp : Nat} {ln : Nat → List Nat} {lk lf : Nat → Nat} {hd : Nat → Int32}
def wiB (N w : Nat) (o' : Orc_TextE) (B : Hp) : Option (Unit × Hp) := bC (F_MText_opens N w B) fun _ H => bC (o'.1 w H) fun _ H2 => bC (F_MText_closes N w H2) fun _ H3 => some ((), H3)
theorem jo_inAny {A B : Hp} {i cs : Nat} {o : Orc_BodyE} {o' : Orc_TextE} (hO : ZO w o') (ih : dp < 20 → IH0 o o' p w T L g E Nm Pv nL lc (dp + 1) ln lk lf hd) (ha : (JA p T L g E Nm Pv nL lc dp ln lk lf hd i cs A)) (hb : (JB w T L g E Nm Pv nL lc dp ln lk lf hd i B)) (hC : (CX p E Nm nL lc dp ln lk lf hd)) (hcs : cs + 8 ≤ 2 * tkp L i) : (Out (SBo p (E 0 0)) (SRo w) w L i A B (F_Body_inParens N o 9 (-1) A) (wiB N w o' B) (fun j _ A' _ B' => ∃ cs' m k, j = m + 1 ∧ (JA p T L g E Nm Pv nL lc dp ln lk lf hd j cs' A') ∧ (JB w T L g E Nm Pv nL lc dp ln lk lf hd j B') ∧ i + 1 < m ∧ tkk L i = 12 ∧ tkk L m = 13 ∧ dp < 20 ∧ cs ≤ cs' ∧ cs' + 2 * tkp L i + 4 ≤ cs + 2 * tkp L j ∧ cfr p cs A A' ∧ mfr w i B B' ∧ ∀ cd mn nu, Agr p w cs cs' i j A' B' cd mn nu → DE (tyF L) mn nu cd E nL lc lk hd 0 (dp + 1) (i + 1) m cs cs' k)) := by
  have hG := ha.1.1.1
  have hp := hC.2.1
  unfold F_Body_inParens wiB
  rw [ck_t (rS_9 hG)]
  refine Out.bind (jo_opens ha hb hC) ?_ ?_
  rotate_left
  · intro y B' k p0 hz
    obtain ⟨B2, e1, e2, e3⟩ := fz_closes (N := N) hz
    exact ⟨(), B2, by rw [bC_t (hO _ _ _ hz).1, bC_t e1], e2, e3⟩
  intro j v A1 y B1 hij hxa hsb hQ
  obtain ⟨rfl, h12, h20, hA1, hB1, hA, hB⟩ := hQ
  have hC' : (CX p E Nm nL lc (dp + 1) ln lk lf hd) := hC.dep (by have := hC.2.2.2.2.1; omega) (by omega)
  obtain ⟨q1, q2, q3⟩ := pos_lt hb.1 (show 2 ≤ tkk L i by omega)
  refine Out.bind (jo_any (N := N) (ih h20) hA hB (by omega)) ?_ ?_
  rotate_left
  · intro y B' k p0 hz
    obtain ⟨B2, e1, e2, e3⟩ := fz_closes (N := N) hz
    exact ⟨(), B2, by rw [bC_t e1], e2, e3⟩
  intro m v A2 y B2 hij2 hxa2 hsb2 hQ
  obtain ⟨k, cs', rfl, rfl, hk, hA2, hB2, hlt, hc1, hc2, hcf, hmf, hde⟩ := hQ
  refine Out.bind (jo_closes (N := N) hA2 hB2 hC h20) ?_ (fun y B' k p0 hz => ⟨(), B', rfl, hz, same.rf⟩)
  intro j v A3 y B3 hij3 hxa3 hsb3 hQ
  obtain ⟨rfl, h13, rfl, rfl, hA3, hB3⟩ := hQ
  have hi3 := hA3.1.2.2.2.2.2.2.1
  obtain ⟨q4, q5, q6⟩ := pos_lt hB2.1 (show 2 ≤ tkk L m by omega)
  have cf3 : ∀ x, ((advA A2 L m).sD 9 6 (nI dp)).D (p + 191) x = A2.D (p + 191) x := fun x => by rw [rdw (by omega), code_adv hp]
  have cf1 : ∀ x, A1.D (p + 191) x = A.D (p + 191) x := fun x => by rw [hA1, code_adv hp, rdw (by omega)]
  have mf1 : mfr w i B B1 := by rw [hB1]; exact (mfr_at (Or.inr trivial)).tr (mfr_at (Or.inr trivial)) (Nat.le_refl _)
  have mf3 : ∀ z, mfr w z B2 ((B2.sD w 11 (nI (m + 1))).sD w 41 (nI dp)) := fun z => (mfr_at (Or.inr trivial)).tr (mfr_at (Or.inr trivial)) (Nat.le_refl _)
  refine Or.inr ⟨_, _, _, _, m + 1, rfl, rfl, by omega, hi3, exA.rf.mono (fun _ _ h => h) (by omega), same.rf, cs', m, k, rfl, hA3, hB3, by omega, h12, h13, h20, hc1, by omega, fun x hx => ?_, (mf1.tr (hmf.tr (mf3 _) (Nat.le_refl _)) (by omega)), fun cd mn nu hag => hde cd mn nu (hag.sub (fun x _ => cf3 x) (mf3 m) (Nat.le_refl _) (Nat.le_refl _) (by omega) (by omega))⟩
  rw [cf3 x, hcf x hx, cf1 x]
theorem jo_show {A B : Hp} {i cs : Nat} {o : Orc_BodyS} {o' : Orc_TextS} (ha : (JA p T L g E Nm Pv nL lc dp ln lk lf hd i cs A)) (hb : (JB w T L g E Nm Pv nL lc dp ln lk lf hd i B)) (hC : (CX p E Nm nL lc dp ln lk lf hd)) (hcs : cs + 7 ≤ 2 * tkp L i) (hN : 7000 ≤ N) (q : tkk L i = 69) : (Out (SBo p (E 0 0)) (SRo w) w L i A B (F_Body_readStatement N o 9 A) (F_MText_statement N o' w B) (fun j _ A' _ B' => (PS p w T L g E Nm Pv nL lc dp ln lk lf hd i cs A B) j A' B')) := by
  have hp := hC.2.1
  have hG := ha.1.1.1
  have hnx := hb.1.gt (show 2 ≤ tkk L i by omega)
  have u0 := nx_pos2 hb.1 hnx (show 40 ≤ tkk L i by omega)
  have hA1 := ha.adv hC hnx
  have hB1 := hb.nx hnx
  have e : F_MText_commands N w (229 : Int32) (B.sD w 11 (nI (i + 1))) = bC (wiB N w (X_TextE N 50) (B.sD w 11 (nI (i + 1)))) fun _ H => B_MText_commands_104 N w (229 : Int32) H := by
    unfold F_MText_commands wiB
    rw [if_pos rfl, ck_t (TS hB1.1.1.1)]
    simp only [bC_as, bC_v]
    rfl
  rw [sA_69 ha q, sB_69 hb q, e]
  unfold F_Body_readShow B_MText_commands_104
  simp only [bC_u]
  rw [ck_t (rS_9 hG), rf_t (rP_9_0 hG), ck_t (rS_1 hG), bC_t (ev_advance ha.1 hnx)]
  refine Out.pre (Out.bind (jo_inAny (ZO_50 (by omega)) (fun z => jo_expr hN (hC.dep (by have := hC.2.2.2.2.1; omega) (by omega))) hA1 hB1 hC (by omega)) ?_ ?_) (adv_ex.mono SL_SBo (Nat.le_refl _)) (same.rf.sD (by unfold SRo; omega)) (show i ≤ i + 1 by omega) hnx (by omega)
  rotate_left
  · intro y B' k p0 hz
    exact ⟨(), B', by rw [ck_t (TS hz.1), fz_takes hz], hz, same.rf⟩
  intro j v A2 y B2 hij hxa2 hsb hQ
  obtain ⟨cs2, m, k, rfl, hA2, hB2, h1, q12, q13, hdp, hd1, hd2, hcf, hmf, hde⟩ := hQ
  have hG2 := hA2.1.1.1
  have hl2 := hB2.1.2.2.2.2.1
  rw [rf_t (rP_9_0 hG2), ck_t (rS_1 hG2), ck_t (TS hB2.1.1.1), ← bC_u (m := F_MText_takes N w (59 : Int32) B2)]
  refine Out.bind (show _ from jo_take (k := 15) hA2 hB2 hC (by decide) (by decide)) ?_ (fun y B' k p0 hz => ⟨(), B', rfl, hz, same.rf⟩)
  intro j v A3 y B3 hij3 hxa3 hsb3 hQ
  obtain ⟨rfl, q15, rfl, rfl, hA3, hB3⟩ := hQ
  have hl3 := hB3.1.2.2.2.2.1
  have hpj := pos_j hB3.1
  have u1 := nx_pos hb.1 hl3
  have hA4 := hA3.add (v := 26) hC
  rw [rf_t hA3.2.2.1, ck_t (PrS (hA3.pP hC)), bC_t (ev_add hA3 (hA3.pP hC) (by omega))]
  refine Or.inr ⟨_, _, _, _, m + 1 + 1, rfl, rfl, Nat.le_refl _, hl3, add_ex.mono (fun _ _ h => h) (by omega), same.rf, cs2 + 1, nL, ln, lk, lf, hA4, hB3, hC, Nat.le_refl _, fun x hx => ⟨rfl, rfl, rfl⟩, by omega, by omega, by omega, fun x hx => ?_, fun t ht => ?_, fun cd mn nu hag => ?_⟩
  · rw [code_add, if_neg (by omega), code_adv hp, hcf x hx, code_adv hp]
  · rw [rdw (by omega), rdw (by omega), (hmf t (by omega)).1, (hmf t (by omega)).2, rdw (by omega), rdw (by omega)]; exact ⟨rfl, rfl⟩
  · refine DS.sho (m := m) (b := cs2) (tyF_k q) (tyF_k q12) hdp (hde cd mn nu ⟨fun x a b => ?_, fun t a b => ?_⟩) (tyF_k q13) (tyF_k q15) ?_
    · rw [hag.1 x a (by omega), code_add, if_neg (by omega), code_adv hp]
    · obtain ⟨v1, v2⟩ := hag.2 t (by omega) (by omega)
      rw [rdw (by omega)] at v1 v2
      exact ⟨v1, v2⟩
    · rw [hag.1 cs2 (by omega) (by omega), code_add, if_pos rfl]
end Par
