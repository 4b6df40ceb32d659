/-! ===== emit, behind its values ===== -/
section Par
variable {N p w T : Nat} {L : List (Nat × Nat × Int32 × Bool × Nat)} {g : Nat → Nat} {E : Nat → Nat → Nat} {Nm : Nat → Nat → List Nat} {Pv : Nat → Nat → Int32} {nL lc dp : Nat} {ln : Nat → List Nat} {lk lf : Nat → Nat} {hd : Nat → Int32}
theorem fz_118 {B : Hp} {k p0 : Nat} (hN : 1 ≤ N) (h : Zf B w k p0) : ∃ B', B_MText_emits_118 N w B = some ((), B') ∧ Zf B' w k p0 ∧ same (SRo w) B B' := by
  obtain ⟨B1, e1, e2, e3⟩ := fz_closes (N := N) h
  obtain ⟨B2, f1, f2, f3⟩ := fz_wantsIn (N := N) (kw := 4) (ZO_50 (N := N) hN) e2
  obtain ⟨B3, g1, g2, g3⟩ := fz_wantsIn (N := N) (kw := 0) (ZO_50 (N := N) hN) f2
  refine ⟨B3, ?_, g2, e3.tr (f3.tr g3)⟩
  unfold B_MText_emits_118
  rw [ck_t (TS h.1), bC_t e1, bC_t (fz_takes e2), bC_t f1, bC_t (fz_takes f2), bC_t g1, bC_t (fz_takes g2)]
theorem jo_e180 {A B : Hp} {m cs e : Nat} (ha : (JA p T L g E Nm Pv nL lc (dp + 1) ln lk lf hd m cs A)) (hb : (JB w T L g E Nm Pv nL lc (dp + 1) ln lk lf hd m B)) (hC : (CX p E Nm nL lc dp ln lk lf hd)) (h20 : dp < 20) (hcs : cs + 6 ≤ 2 * tkp L m) (hN : 7000 ≤ N) :
    (Out (SBo p (E 0 0)) (SRo w) w L m A B (B_Body_readEmit_180 N 9 (nI e) A) (B_MText_emits_118 N w B) (fun j _ A' _ B' => ∃ q r b2 b3, j = r + 2 ∧ (JA p T L g E Nm Pv nL lc dp ln lk lf hd j (b3 + 2) A') ∧ (JB w T L g E Nm Pv nL lc dp ln lk lf hd j B') ∧ m < q ∧ q < r ∧ cs ≤ b2 ∧ b2 ≤ b3 ∧ b3 + 2 * tkp L m + 4 ≤ cs + 2 * tkp L j ∧ cfr p cs A A' ∧ mfr w m B B' ∧ tkk L m = 13 ∧ tkk L (m + 1) = 68 ∧ tkk L (m + 2) = 12 ∧ tkk L q = 13 ∧ tkk L (q + 1) = 59 ∧ tkk L (q + 2) = 12 ∧ tkk L r = 13 ∧ tkk L (r + 1) = 15 ∧ A'.D (p + 191) b3 = 25 ∧ A'.D (p + 191) (b3 + 1) = nI e ∧ ∀ cd mn nu, Agr p w cs b3 m j A' B' cd mn nu → DE (tyF L) mn nu cd E nL lc lk hd 0 (dp + 1) (m + 3) q cs b2 4 ∧ DE (tyF L) mn nu cd E nL lc lk hd 0 (dp + 1) (q + 3) r b2 b3 0)) := by
  have hp := hC.2.1
  have hG := ha.1.1.1
  have ihx : dp < 20 → IH0 (X_BodyE N 140) (X_TextE N 50) p w T L g E Nm Pv nL lc (dp + 1) ln lk lf hd := fun z => jo_expr hN (hC.dep (by have := hC.2.2.2.2.1; omega) (by omega))
  unfold B_Body_readEmit_180 B_MText_emits_118
  rw [ck_t (rS_9 hG), ck_t (TS hb.1.1.1)]
  refine Out.bind (jo_closes (N := N) ha hb hC h20) ?_ ?_
  rotate_left
  · intro y B' k p0 hz
    obtain ⟨B2, f1, f2, f3⟩ := fz_wantsIn (N := N) (kw := 4) (ZO_50 (N := N) (by omega)) hz
    obtain ⟨B3, g1, g2, g3⟩ := fz_wantsIn (N := N) (kw := 0) (ZO_50 (N := N) (by omega)) f2
    exact ⟨(), B3, by rw [bC_t (fz_takes hz), bC_t f1, bC_t (fz_takes f2), bC_t g1, bC_t (fz_takes g2)], g2, f3.tr g3⟩
  intro j v A1 y B1 hij hxa1 hsb1 hQ
  obtain ⟨rfl, q13, rfl, rfl, hA1, hB1⟩ := hQ
  have hG1 := hA1.1.1.1
  rw [rf_t (rP_9_0 hG1), ck_t (rS_1 hG1)]
  refine Out.bind (show _ from jo_take (k := 68) hA1 hB1 hC (by decide) (by decide)) ?_ ?_
  rotate_left
  · intro y B' k p0 hz
    obtain ⟨B2, f1, f2, f3⟩ := fz_wantsIn (N := N) (kw := 4) (ZO_50 (N := N) (by omega)) hz
    obtain ⟨B3, g1, g2, g3⟩ := fz_wantsIn (N := N) (kw := 0) (ZO_50 (N := N) (by omega)) f2
    exact ⟨(), B3, by rw [bC_t f1, bC_t (fz_takes f2), bC_t g1, bC_t (fz_takes g2)], g2, f3.tr g3⟩
  intro j v A2 y B2 hij hxa2 hsb2 hQ
  obtain ⟨rfl, q68, rfl, rfl, hA2, hB2⟩ := hQ
  have hl2 := hB2.1.2.2.2.2.1
  have u0 : tkp L m + 1 ≤ tkp L (m + 1) := nx_pos hb.1 (by omega)
  have u1 : tkp L (m + 1) + 1 ≤ tkp L (m + 2) := nx_pos hb.1 (by omega)
  refine Out.bind (show _ from jo_inP (kw := 4) (ZO_50 (N := N) (by omega)) ihx hA2 hB2 hC (show cs + 8 ≤ 2 * tkp L (m + 2) by omega) (by decide) (by decide)) ?_ ?_
  rotate_left
  · intro y B' k p0 hz
    obtain ⟨B3, g1, g2, g3⟩ := fz_wantsIn (N := N) (kw := 0) (ZO_50 (N := N) (by omega)) hz
    exact ⟨(), B3, by rw [bC_t (fz_takes hz), bC_t g1, bC_t (fz_takes g2)], g2, g3⟩
  intro j v A3 y B3 hij hxa3 hsb3 hQ
  obtain ⟨b2, q, rfl, rfl, hA3, hB3, h3, s12, s13, -, hd1, hd2, hcf3, hmf3, hde3⟩ := hQ
  have hd2' : b2 + 2 * tkp L (m + 2) + 4 ≤ cs + 2 * tkp L (q + 1) := hd2
  have hG3 := hA3.1.1.1
  rw [rf_t (rP_9_0 hG3), ck_t (rS_1 hG3)]
  refine Out.bind (show _ from jo_take (k := 59) hA3 hB3 hC (by decide) (by decide)) ?_ ?_
  rotate_left
  · intro y B' k p0 hz
    obtain ⟨B3, g1, g2, g3⟩ := fz_wantsIn (N := N) (kw := 0) (ZO_50 (N := N) (by omega)) hz
    exact ⟨(), B3, by rw [bC_t g1, bC_t (fz_takes g2)], g2, g3⟩
  intro j v A4 y B4 hij hxa4 hsb4 hQ
  obtain ⟨rfl, q59, rfl, rfl, hA4, hB4⟩ := hQ
  have hl4 := hB4.1.2.2.2.2.1
  have u2 : tkp L (q + 1) + 1 ≤ tkp L (q + 2) := nx_pos hb.1 (by omega)
  refine Out.bind (show _ from jo_inP (kw := 0) (ZO_50 (N := N) (by omega)) ihx hA4 hB4 hC (show b2 + 8 ≤ 2 * tkp L (q + 2) by omega) (by decide) (by decide)) ?_ ?_
  rotate_left
  · intro y B' k p0 hz
    exact ⟨(), B', by rw [bC_t (fz_takes hz)], hz, same.rf⟩
  intro j v A5 y B5 hij hxa5 hsb5 hQ
  obtain ⟨b3, r, rfl, rfl, hA5, hB5, h5, s22, s23, -, hd3, hd4, hcf5, hmf5, hde5⟩ := hQ
  have hd4' : b3 + 2 * tkp L (q + 2) + 4 ≤ b2 + 2 * tkp L (r + 1) := hd4
  have hG5 := hA5.1.1.1
  rw [rf_t (rP_9_0 hG5), ck_t (rS_1 hG5)]
  refine Out.bind (show _ from jo_take (k := 15) hA5 hB5 hC (by decide) (by decide)) ?_ (fun y B' k p0 hz => ⟨(), B', rfl, hz, same.rf⟩)
  intro j v A6 y B6 hij hxa6 hsb6 hQ
  obtain ⟨rfl, q15, rfl, rfl, hA6, hB6⟩ := hQ
  have hl6 := hB6.1.2.2.2.2.1
  have hpj := pos_j hB6.1
  have u3 : tkp L (r + 1) + 1 ≤ tkp L (r + 2) := nx_pos hb.1 (by omega)
  have hA7 := hA6.add (v := 25) hC
  have hA8 := hA7.add (v := nI e) hC
  rw [rf_t hA6.2.2.1, ck_t (PrS (hA6.pP hC)), bC_t (ev_add hA6 (hA6.pP hC) (by have : tkp L (r + 2) ≤ 6000 := hpj; omega)), rf_t hA7.2.2.1, ck_t (PrS (hA7.pP hC)), bC_t (ev_add hA7 (hA7.pP hC) (by have : tkp L (r + 2) ≤ 6000 := hpj; omega))]
  have cA : ∀ y, y < b3 → (addA (addA (advA A5 L (r + 1)) p b3 25) p (b3 + 1) (nI e)).D (p + 191) y = A5.D (p + 191) y := fun y hy => by
    rw [code_add, if_neg (by omega), code_add, if_neg (by omega), code_adv hp]
  have c1 : ∀ x, ((advA A L m).sD 9 6 (nI dp)).D (p + 191) x = A.D (p + 191) x := fun x => by rw [rdw (by omega), code_adv hp]
  refine Or.inr ⟨_, _, _, _, r + 2, rfl, rfl, Nat.le_refl _, hl6, (add_ex.tr add_ex).mono (fun _ _ h => h) (by omega), same.rf, q, r, b2, b3, rfl, hA8, hB6, by omega, by omega, hd1, hd3, by omega, fun y hy => ?_, fun t ht => ?_, q13, q68, s12, s13, q59, s22, s23, q15, ?_, ?_, fun cd mn nu hag => ⟨hde3 cd mn nu ⟨fun y a b => ?_, fun t a b => ?_⟩, hde5 cd mn nu ⟨fun y a b => ?_, fun t a b => ?_⟩⟩⟩
  · rw [cA y (by omega), hcf5 y (by omega), code_adv hp, hcf3 y hy, code_adv hp, c1]
  · rw [rdw (by omega), rdw (by omega), (hmf5 t (by omega)).1, (hmf5 t (by omega)).2, rdw (by omega), rdw (by omega), (hmf3 t (by omega)).1, (hmf3 t (by omega)).2]
    simp only [rdw (show w + 7 ≠ w by omega), rdw (show w + 5 ≠ w by omega)]
    exact ⟨trivial, trivial⟩
  · rw [code_add, if_neg (by omega), code_add, if_pos rfl]
  · rw [code_add, if_pos rfl]
  · rw [hag.1 y a (by omega), cA y (by omega), hcf5 y b, code_adv hp]
  · obtain ⟨v1, v2⟩ := hag.2 t (by omega) (by omega)
    rw [rdw (by omega), (hmf5 t (by omega)).1, rdw (by omega)] at v1
    rw [rdw (by omega), (hmf5 t (by omega)).2, rdw (by omega)] at v2
    exact ⟨v1, v2⟩
  · rw [hag.1 y (by omega) b, cA y b]
  · obtain ⟨v1, v2⟩ := hag.2 t (by omega) (by omega)
    rw [rdw (by omega)] at v1 v2
    exact ⟨v1, v2⟩
end Par
