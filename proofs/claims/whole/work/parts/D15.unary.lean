/-! ===== has, signs ahead, unary ===== -/
section Par
variable {N p w T : Nat} {L : List (Nat × Nat × Int32 × Bool × Nat)} {g : Nat → Nat} {E : Nat → Nat → Nat} {Nm : Nat → Nat → List Nat} {Pv : Nat → Nat → Int32} {nL lc dp : Nat} {ln : Nat → List Nat} {lk lf : Nat → Nat} {hd : Nat → Int32}
theorem jo_has {A B : Hp} {i cs : Nat} {o : Orc_BodyE} {o' : Orc_TextE} (hO : ZO w o') (ih : dp < 20 → IH0 o o' p w T L g E Nm Pv nL lc (dp + 1) ln lk lf hd) (ha : (JA p T L g E Nm Pv nL lc dp ln lk lf hd i cs A)) (hb : (JB w T L g E Nm Pv nL lc dp ln lk lf hd i B)) (hC : (CX p E Nm nL lc dp ln lk lf hd)) (hcs : cs + 8 ≤ 2 * tkp L i) (hN : 7000 ≤ N) (hk : tkk L i = 80) : (Out (SBo p (E 0 0)) (SRo w) w L i A B (F_Body_unary N o 9 A) (F_MText_unary N o' w B) ((PE p w T L g E Nm Pv nL lc dp ln lk lf hd 5 i cs A B))) := by
  have hG := ha.1.1.1
  have hp := hC.2.1
  have hn := hb.1.gt (show 2 ≤ tkk L i by omega)
  obtain ⟨q1, q2, q3⟩ := pos_lt hb.1 (show 2 ≤ tkk L i by omega)
  have hA1 := ha.adv hC hn
  have hB1 := hb.nx hn
  have hG1 := hA1.1.1.1
  have eB : F_MText_unary N o' w B = bC (F_MText_opens N w (B.sD w 11 (nI (i + 1)))) fun v76 H77 =>
    bC (F_MText_wants N o' w (4 : Int32) H77) fun v79 H80 =>
    bC (F_MText_takes N w (44 : Int32) H80) fun v82 H83 =>
    bC (bC (F_MText_name N w H83) fun v85 H86 =>
    F_MText_numberOf N w v85 (2 : Int32) H86) fun v88 H89 =>
    bC (F_MText_closes N w H89) fun v91 H92 =>
    some (3, H92) := by
    rw [un_ref hb.1 (by omega) (by omega), pr_ref hb.1, if_neg (by omega)]
    unfold B_MText_primary_51
    rw [ck_t (TS hb.1.1.1), bnd_t, hb.1.2.2.2.1, if_pos (by decide), hk, if_neg (by decide), bnd_t, hb.1.2.2.1, nI_1, bnd_t, if_neg (by decide), if_neg (by decide), if_neg (by decide), if_neg (by decide), if_neg (by decide), if_neg (by decide), if_neg (by decide), if_neg (by decide), if_neg (by decide), if_neg (by decide), if_neg (by decide), if_neg (by decide), if_neg (by decide), if_neg (by decide), if_pos (by rfl)]
    simp only [bC_as]
    rfl
  rw [eB, un_A ha, if_neg (by omega), if_neg (by omega), if_neg (by omega), if_neg (by omega), if_neg (by omega), if_neg (by omega), if_neg (by omega), if_neg (by omega), if_neg (by omega), if_pos hk]
  unfold F_Body_readHas
  rw [ck_t (rS_9 hG), rf_t (rP_9_0 hG), ck_t (rS_1 hG), bC_t (ev_advance ha.1 hn)]
  refine Out.pre (Out.bind (jo_opens hA1 hB1 hC) ?_ ?_) (adv_ex.mono SL_SBo (Nat.le_refl _)) (same.rf.sD (by unfold SRo; omega)) (show i ≤ i + 1 by omega) hn (by omega)
  rotate_left
  · intro y B' k p0 hz
    obtain ⟨B2, e1, e2, e3⟩ := fz_closes (N := N) hz
    exact ⟨3, B2, by rw [bC_t (fz_wants hO hz), bC_t (fz_takes hz), bC_t (fz_name hz), fz_numberOf hz, bC_v, bC_t e1], e2, e3⟩
  intro j v A2 y B2 hij hxa hsb hQ
  obtain ⟨rfl, h12, h20, hA2e, hB2e, hA2, hB2⟩ := hQ
  have hC' : (CX p E Nm nL lc (dp + 1) ln lk lf hd) := hC.dep (by have := hC.2.2.2.2.1; omega) (by omega)
  obtain ⟨q4, q5, q6⟩ := pos_lt hB1.1 (show 2 ≤ tkk L (i + 1) by omega)
  have ow := jo_want (N := N) (kw := 4) (ih h20) hA2 hB2 hC' (by omega) (by decide)
  refine Out.bind (show _ from ow) ?_ ?_
  rotate_left
  · intro y B' k p0 hz
    obtain ⟨B3, e1, e2, e3⟩ := fz_closes (N := N) hz
    exact ⟨3, B3, by rw [bC_t (fz_takes hz), bC_t (fz_name hz), fz_numberOf hz, bC_v, bC_t e1], e2, e3⟩
  intro m v A3 y B3 hij3 hxa3 hsb3 hQ
  obtain ⟨cs', hv, hA3, hB3, hlt, hc1, hc2, hcf, hmf, -, hde⟩ := hQ
  have hA3 : (JA p T L g E Nm Pv nL lc (dp + 1) ln lk lf hd m cs' A3) := hA3
  have hG3 := hA3.1.1.1
  rw [rf_t (rP_9_0 hG3), ck_t (rS_1 hG3)]
  refine Out.bind (show _ from jo_take (N := N) (k := 14) hA3 hB3 hC' (by decide) (by decide)) ?_ ?_
  rotate_left
  · intro y B' k p0 hz
    obtain ⟨B4, e1, e2, e3⟩ := fz_closes (N := N) hz
    exact ⟨3, B4, by rw [bC_t (fz_name hz), fz_numberOf hz, bC_v, bC_t e1], e2, e3⟩
  intro j v A4 y B4 hij4 hxa4 hsb4 hQ
  obtain ⟨rfl, h14, rfl, rfl, hA4, hB4⟩ := hQ
  obtain ⟨q7, q8, q9⟩ := pos_lt hB3.1 (show 2 ≤ tkk L m by omega)
  refine Out.bind (show _ from jo_number (N := N) (so := 0) hA4 hB4 hC' hN (by decide)) ?_ ?_
  rotate_left
  · intro y B' k p0 hz
    obtain ⟨B5, e1, e2, e3⟩ := fz_closes (N := N) hz
    exact ⟨3, B5, by rw [bC_t e1], e2, e3⟩
  intro j v A5 y B5 hij5 hxa5 hsb5 hQ
  obtain ⟨rfl, h2, hA5, hB5, hcd5, kk, hkk, hkk0, rfl, rfl, rfl⟩ := hQ
  obtain ⟨q10, q11, q12⟩ := pos_lt hB4.1 (show 2 ≤ tkk L (m + 1) by omega)
  have hc3 := (hC.1.2.2.2.2.2.2.2.2.2.2.2.2.2.2 kk hkk).2.2.1 hkk0
  refine Out.bind (jo_closes (N := N) hA5 hB5 hC h20) ?_ (fun y B' k p0 hz => ⟨3, B', rfl, hz, same.rf⟩)
  intro j v A6 y B6 hij6 hxa6 hsb6 hQ
  obtain ⟨rfl, h13, rfl, rfl, hA6, hB6⟩ := hQ
  have hi6 := hA6.1.2.2.2.2.2.2.1
  obtain ⟨q13, q14, q15⟩ := pos_lt hB5.1 (show 2 ≤ tkk L (m + 1 + 1) by omega)
  have hP6 := hA6.pP hC
  have hA7 := hA6.add (v := 42) hC
  have hP7 := hA7.pP hC
  have hA8 := hA7.add (v := nI (E 3 kk)) hC
  rw [rf_t hA6.2.2.1, ck_t (PrS hP6), bC_t (ev_add hA6 hP6 (by omega)), rf_t hA7.2.2.1, ck_t (PrS hP7), bC_t (ev_add hA7 hP7 (by omega))]
  have cf2 : ∀ x, A2.D (p + 191) x = A.D (p + 191) x := fun x => by rw [hA2e, code_adv hp, rdw (by omega), code_adv hp]
  have cf6 : ∀ x, ((advA A5 L (m + 1 + 1)).sD 9 6 (nI dp)).D (p + 191) x = A3.D (p + 191) x := fun x => by rw [rdw (by omega), code_adv hp, hcd5 x, code_adv hp]
  have mf2 : mfr w i B B2 := by rw [hB2e]; exact (mfr_at (Or.inr trivial)).tr ((mfr_at (Or.inr trivial)).tr (mfr_at (Or.inr trivial)) (Nat.le_refl _)) (Nat.le_refl _)
  have mf6 : mfr w (m + 1) B3 (((((B3.sD w 11 (nI (m + 1))).sD w 11 (nI (m + 1 + 1))).sD (w + 7) (m + 1) (nI (E 3 kk))).sD w 11 (nI (m + 1 + 1 + 1))).sD w 41 (nI dp)) := fun t ht => ⟨by rw [rdw (by omega), rdw (by omega), rdf (by omega), rdw (by omega), rdw (by omega)], by rw [rdw (by omega), rdw (by omega), rdw (by omega), rdw (by omega), rdw (by omega)]⟩
  refine Or.inr ⟨_, _, _, _, m + 1 + 1 + 1, rfl, rfl, by omega, hi6, (add_ex.tr add_ex).mono (fun _ _ h => h) (by omega), same.rf, 3, cs' + 2, rfl, rfl, by omega, hA8, hB6, by omega, by omega, by omega, fun x hx => ?_, ?_, fun cd mn nu hag => ?_⟩
  · rw [code_add, if_neg (by omega), code_add, if_neg (by omega), cf6 x, hcf x hx, cf2 x]
  · exact mf2.tr (hmf.tr mf6 (by omega)) (by omega)
  · have c0 := hag.1 cs' (by omega) (by omega)
    have c1 := hag.1 (cs' + 1) (by omega) (by omega)
    rw [code_add, if_neg (by omega), code_add, if_pos rfl] at c0
    rw [code_add, if_pos rfl] at c1
    have u1 := (hag.2 (m + 1) (by omega) (by omega)).1
    rw [rdw (by omega), rdw (by omega), rds] at u1
    refine DE.has (by unfold tyF; rw [hk]; rfl) (by unfold tyF; rw [h12]; rfl) h20 (hde cd mn nu (hag.sub (fun x hx => ?_) (fun t ht => mf6 t (by omega)) (Nat.le_refl _) (by omega) (by omega) (by omega))) (by unfold tyF; rw [h14]; rfl) u1 hc3 (by unfold tyF; rw [h2]; rfl) (by unfold tyF; rw [show m + 2 = m + 1 + 1 from rfl, h13]; rfl) c0 c1
    rw [code_add, if_neg (by omega), code_add, if_neg (by omega), cf6 x]
theorem ev_reck {B : Hp} {k : Nat} (hk : k < 100) : F_MText_reckons N (nI k) B = some (bI (decide (k = 0 ∨ k = 2)), B) := by
  unfold F_MText_reckons B_MText_reckons_9
  by_cases q : k = 0
  · rw [q]; rfl
  · by_cases q2 : k = 2
    · rw [q2]; rfl
    · rw [if_neg (show ¬ nI k = (0 : Int32) from fun z => q ((nI_eq (b := 0) (by omega) (by decide)).mp z)), if_neg (show ¬ nI k = (2 : Int32) from fun z => q2 ((nI_eq (b := 2) (by omega) (by decide)).mp z)), decide_eq_false (by omega)]
      rfl
theorem jo_signed {A B : Hp} {i cs : Nat} {o : Orc_BodyE} {o' : Orc_TextE} (hO : ZO w o') (ih : dp < 20 → IH5 o o' p w T L g E Nm Pv nL lc (dp + 1) ln lk lf hd) (ha : (JA p T L g E Nm Pv nL lc dp ln lk lf hd i cs A)) (hb : (JB w T L g E Nm Pv nL lc dp ln lk lf hd i B)) (hC : (CX p E Nm nL lc dp ln lk lf hd)) (hcs : cs + 8 ≤ 2 * tkp L i) (hk : tkk L i = 19 ∨ tkk L i = 25) : (Out (SBo p (E 0 0)) (SRo w) w L i A B (F_Body_unary N o 9 A) (F_MText_unary N o' w B) ((PE p w T L g E Nm Pv nL lc dp ln lk lf hd 5 i cs A B))) := by
  have hG := ha.1.1.1
  have hi := ha.1.2.2.2.2.2.2.1
  have hp := hC.2.1
  have h61 : L.length ≤ 6001 := by have := hb.1.2.2.2.2.2.2.1; have := hb.1.2.2.2.2.2.2.2.1; omega
  have hn := hb.1.gt (show 2 ≤ tkk L i by omega)
  obtain ⟨q1, q2, q3⟩ := pos_lt hb.1 (show 2 ≤ tkk L i by omega)
  have eB : F_MText_unary N o' w B = B_MText_unary_23 N o' w B := by
    unfold F_MText_unary
    rw [ck_t (TS hb.1.1.1), bC_t (show F_MText_is N w (45 : Int32) B = _ from ev_is (k := 19) hb.1 (by decide))]
    by_cases q : tkk L i = 19
    · rw [decide_eq_true q, if_neg bI_t0]
    · rw [decide_eq_false q, if_pos bI_f, bC_t (show F_MText_is N w (33 : Int32) B = _ from ev_is (k := 25) hb.1 (by decide)), decide_eq_true (show tkk L i = 25 by omega), if_neg bI_t0]
  rw [eB, un_A ha, if_neg (by omega), if_neg (by omega), if_pos hk]
  unfold F_Body_signed B_MText_unary_23
  rw [ck_t (rS_9 hG), rf_t (rP_9_0 hG), ck_t (rS_1 hG), bnd_t, ha.1.2.2.2.2.2.1, ck_t (TS hb.1.1.1), bnd_t, hb.1.2.2.1]
  have h20 : dp ≤ 20 := hC.2.2.2.2.2.1
  have e6 : A.D 9 6 = nI dp := ha.2.2.2.2.2.2.1
  have f6 : B.D w 41 = nI dp := hb.2.2.2.1
  by_cases hd20 : dp < 20
  · have eDA : F_Body_deepen N 9 A = some (.inl (), A.sD 9 6 (nI (dp + 1))) := by
      unfold F_Body_deepen B_Body_deepen_24
      rw [ck_t (rS_9 hG), bnd_t, e6, if_pos (show nI dp < (20 : Int32) from nI_lt (b := 20) hd20 (by decide)), ck_t (rS_9 hG), bnd_t, bnd_t, nI_1]
    have eDB : F_MText_deeper N w B = some ((), B.sD w 41 (nI (dp + 1))) := by
      unfold F_MText_deeper B_MText_deeper_25
      rw [ck_t (TS hb.1.1.1), bnd_t, hb.1.2.2.2.1, if_pos rfl, bnd_t, f6, if_neg (show ¬ nI dp = (20 : Int32) from fun z => by have := (nI_eq (b := 20) (by omega) (by decide)).mp z; omega), ck_t (TS hb.1.1.1), bnd_t, bnd_t, nI_1]
    have hC' : (CX p E Nm nL lc (dp + 1) ln lk lf hd) := hC.dep (by have := hC.2.2.2.2.1; omega) (by omega)
    have hA0 : (JA p T L g E Nm Pv nL lc (dp + 1) ln lk lf hd i cs (A.sD 9 6 (nI (dp + 1)))) := ha.dep hC
    have hB0 : (JB w T L g E Nm Pv nL lc (dp + 1) ln lk lf hd i (B.sD w 41 (nI (dp + 1)))) := hb.dep
    have hG0 := hA0.1.1.1
    have hA1 := hA0.adv hC' hn
    have hB1 := hB0.nx hn
    rw [eDA, bT_v, eDB, bC_v, rf_t (rP_9_0 hG0), ck_t (rS_1 hG0), bC_t (ev_advance hA0.1 hn), bnd_t (e := (B.sD w 41 (nI (dp + 1))).D w 11), hB0.1.2.2.1, nI_1, bnd_t]
    refine Out.pre (Out.bind (ih hd20 (i + 1) cs _ _ hA1 hB1 (by omega)) ?_ ?_) ((exA.rf.sD (S := SBo p (E 0 0)) (decide_eq_true (by omega))).tr (adv_ex.mono SL_SBo (Nat.le_refl _))) ((same.rf.sD (by unfold SRo; omega)).sD (by unfold SRo; omega)) (show i ≤ i + 1 by omega) hn (by omega)
    rotate_left
    · intro y B' k p0 hz
      have hz3 := hz.sD (a := w) (f := 41) (v := B'.D w 41 - 1) (by omega)
      refine ⟨y, (B'.sD w 41 (B'.D w 41 - 1)).sD (w + 7) i y, ?_, hz3.sD (by omega), (same.rf.sD (by unfold SRo; omega)).sD (by unfold SRo; omega)⟩
      rw [bnd_t, bnd_t, bnd_t, if_neg hz3.n0]
      unfold B_MText_unary_96
      rw [ck_t (TS hz3.1), rf_t (TP_8 hz3.1), ar_t (TA_8 hz3.1), wrI (by omega) (by decide)]
    intro j v A2 y B2 hij hxa hsb hQ
    obtain ⟨k, cs', rfl, rfl, hkk, hA2, hB2, hlt, hc1, hc2, hcf, hmf, hde⟩ := hQ
    have hA3 : (JA p T L g E Nm Pv nL lc dp ln lk lf hd j cs' (A2.sD 9 6 (nI dp))) := hA2.dep hC'
    have hB3 : (JB w T L g E Nm Pv nL lc dp ln lk lf hd j (B2.sD w 41 (nI dp))) := hB2.dep
    have hG3 := hA3.1.1.1
    have hi3 := hA3.1.2.2.2.2.2.2.1
    have hpj := pos_j hB3.1
    have hP3 := hA3.pP hC
    have m1 := (hB3.1.2.1 i hi).1
    rw [bnd_t (e := A2.D 9 6), hA2.2.2.2.2.2.2.1, bnd_t, bnd_t (e := B2.D w 41), hB2.2.2.2.1, bnd_t, nI_m, bnd_t (e := (B2.sD w 41 (nI dp)).D w 9), hB3.1.2.2.2.1, if_pos (show (0 : Int32) = 0 from rfl), rf_t (TP_3 hB3.1.1.1), ar_t (TA_3 hB3.1.1.1), rdI (by omega) (by decide), m1]
    have fin : ∀ op : Int32, (((k = 0 ∧ op = 50) ∨ (k = 2 ∧ op = 70)) ∧ tkk L i = 19) ∨ (k = 3 ∧ op = 51 ∧ tkk L i = 25) → (Out (SBo p (E 0 0)) (SRo w) w L j A2 B2 (B_Body_signed_114 N o 9 (nI (tkk L i)) (nI k) p op (A2.sD 9 6 (nI dp))) (B_MText_unary_96 N o' w (nI i) (nI k) (B2.sD w 41 (nI dp))) ((PE p w T L g E Nm Pv nL lc dp ln lk lf hd 5 i cs A B))) := by
      intro op hop
      have hA4 := hA3.add (v := op) hC
      unfold B_Body_signed_114 B_MText_unary_96
      rw [ck_t (PrS hP3), bC_t (ev_add hA3 hP3 (by omega)), ck_t (TS hB3.1.1.1), rf_t (TP_8 hB3.1.1.1), ar_t (TA_8 hB3.1.1.1), wrI (by omega) (by decide)]
      have cf3 : ∀ x, x < cs' → (addA (A2.sD 9 6 (nI dp)) p cs' op).D (p + 191) x = A2.D (p + 191) x := fun x hx => by rw [code_add, if_neg (by omega), rdw (by omega)]
      refine Or.inr ⟨_, _, _, _, j, rfl, rfl, by omega, hi3, ((exA.rf.sD (decide_eq_true (by omega))).tr add_ex).mono (fun _ _ h => h) (by omega), (same.rf.sD (by unfold SRo; omega)).sD (by unfold SRo; omega), k, cs' + 1, rfl, rfl, hkk, hA4, hB3.sD rfl, by omega, by omega, by omega, fun x hx => ?_, fun t ht => ?_, fun cd mn nu hag => ?_⟩
      · rw [cf3 x (by omega), hcf x hx, code_adv hp, rdw (by omega)]
      · have a1 := hmf t (by omega)
        constructor
        · rw [rdf (by omega), rdw (by omega), a1.1, rdw (by omega), rdw (by omega)]
        · rw [rdw (by omega), rdw (by omega), a1.2, rdw (by omega), rdw (by omega)]
      · have c0 := hag.1 cs' (by omega) (by omega)
        rw [code_add, if_pos rfl] at c0
        have u0 := (hag.2 i (by omega) (by omega)).1
        rw [rds] at u0
        have hd2 := hde cd mn nu ⟨fun x h1 h2 => (hag.1 x h1 (by omega)).trans (cf3 x h2), fun t h1 h2 => by
          obtain ⟨a, b⟩ := hag.2 t (by omega) h2
          rw [rdf (by omega), rdw (by omega)] at a
          rw [rdw (by omega), rdw (by omega)] at b
          exact ⟨a, b⟩⟩
        rcases hop with ⟨hop, h19⟩ | ⟨rfl, rfl, h25⟩
        · refine DE.neg (by unfold tyF; rw [h19]; rfl) hd20 hd2 ?_ u0
          rw [c0]
          exact hop
        · exact DE.nott (by unfold tyF; rw [h25]; rfl) hd20 hd2 c0
    have bad : (Out (SBo p (E 0 0)) (SRo w) w L j A2 B2 (B_Body_signed_67 N o 9 (nI (tkk L i)) (nI (tkp L i)) (nI k) 0 (A2.sD 9 6 (nI dp))) (B_MText_unary_90 N o' w (nI i) (nI k) (B2.sD w 41 (nI dp))) ((PE p w T L g E Nm Pv nL lc dp ln lk lf hd 5 i cs A B))) := by
      have z5 : Zf (failB (B2.sD w 41 (nI dp)) w 5 (tkp L i)) w 5 (tkp L i) := hB3.1.fail (by decide) (by decide)
      unfold B_Body_signed_67 B_MText_unary_90 B_MText_unary_96
      rw [if_pos rfl, ck_t (rS_9 hG3), rf_t (rP_9_0 hG3), ck_t (rS_1 hG3), ev_refuse hG3, bT_z, ck_t (TS hB3.1.1.1), bC_t (show F_MText_fails N w (5 : Int32) (nI i) _ = _ from ev_fails (k := 5) hB3.1 hi), ck_t (TS z5.1), rf_t (TP_8 z5.1), ar_t (TA_8 z5.1), wrI (by omega) (by decide)]
      refine Out.pre (Out.no (k := 5) hB3.1 (by decide) (by decide) hi3 (z5.sD (by omega)) (SRo_fail.tr (same.rf.sD (by unfold SRo; omega)))) (exA.rf.sD (decide_eq_true (by omega))) (same.rf.sD (by unfold SRo; omega)) (Nat.le_refl _) hi3 (by omega)
    have e95 : ∀ wo : Int32, B_Body_signed_95 N o 9 (nI (tkk L i)) (nI k) wo (A2.sD 9 6 (nI dp)) = if tkk L i = 25 then B_Body_signed_114 N o 9 (nI (tkk L i)) (nI k) p 51 (A2.sD 9 6 (nI dp)) else B_Body_signed_114 N o 9 (nI (tkk L i)) (nI k) p wo (A2.sD 9 6 (nI dp)) := by
      intro wo
      unfold B_Body_signed_95
      rw [ck_t (rS_9 hG3), rf_t hA3.2.2.1]
      by_cases q : tkk L i = 25
      · rw [if_pos q, if_pos (by rw [q]; rfl)]
      · rw [if_neg q, if_neg (show ¬ nI (tkk L i) = (25 : Int32) from fun z => q ((nI_eq (b := 25) (by omega) (by decide)).mp z))]
    have e83 : B_Body_signed_83 N o 9 (nI (tkk L i)) (nI k) (A2.sD 9 6 (nI dp)) = if tkk L i = 25 then B_Body_signed_114 N o 9 (nI (tkk L i)) (nI k) p 51 (A2.sD 9 6 (nI dp)) else B_Body_signed_114 N o 9 (nI (tkk L i)) (nI k) p (if k = 2 then 70 else 50) (A2.sD 9 6 (nI dp)) := by
      unfold B_Body_signed_83
      by_cases q : k = 2
      · rw [if_pos (show nI k = (2 : Int32) by rw [q]; rfl), e95, if_pos q]
      · rw [if_neg (show ¬ nI k = (2 : Int32) from fun z => q ((nI_eq (b := 2) (by omega) (by decide)).mp z)), e95, if_neg q]
    have e67 : ∀ wo : Int32, ¬ wo = 0 → B_Body_signed_67 N o 9 (nI (tkk L i)) (nI (tkp L i)) (nI k) wo (A2.sD 9 6 (nI dp)) = B_Body_signed_83 N o 9 (nI (tkk L i)) (nI k) (A2.sD 9 6 (nI dp)) := by
      intro wo h0
      unfold B_Body_signed_67
      rw [if_neg h0]
    rcases hk with hk | hk
    · rw [if_neg (show ¬ nI (tkk L i) = (25 : Int32) by rw [hk]; decide), if_neg (show ¬ nI (tyK (tkk L i)) = (33 : Int32) by rw [hk]; decide), bC_t (ev_reck (by omega))]
      by_cases k0 : k = 0
      · rw [if_pos (show nI k = (0 : Int32) by rw [k0]; rfl), decide_eq_true (show k = 0 ∨ k = 2 by omega), if_neg bI_t0]
        unfold B_Body_signed_62
        rw [e67 1 (by decide), e83, if_neg (by omega), if_neg (by omega)]
        exact fin 50 (Or.inl ⟨Or.inl ⟨k0, rfl⟩, hk⟩)
      · rw [if_neg (show ¬ nI k = (0 : Int32) from fun z => k0 ((nI_eq (b := 0) (by omega) (by decide)).mp z))]
        by_cases k2 : k = 2
        · rw [if_pos (show nI k = (2 : Int32) by rw [k2]; rfl), decide_eq_true (show k = 0 ∨ k = 2 by omega), if_neg bI_t0]
          unfold B_Body_signed_62
          rw [e67 1 (by decide), e83, if_neg (by omega), if_pos k2]
          exact fin 70 (Or.inl ⟨Or.inr ⟨k2, rfl⟩, hk⟩)
        · rw [if_neg (show ¬ nI k = (2 : Int32) from fun z => k2 ((nI_eq (b := 2) (by omega) (by decide)).mp z)), decide_eq_false (show ¬ (k = 0 ∨ k = 2) by omega), if_pos bI_f]
          exact bad
    · rw [if_pos (show nI (tkk L i) = (25 : Int32) by rw [hk]; rfl), if_pos (show nI (tyK (tkk L i)) = (33 : Int32) by rw [hk]; rfl)]
      by_cases k3 : k = 3
      · have k3' : nI k = (3 : Int32) := by rw [k3]; rfl
        rw [if_pos k3', if_pos k3', e67 1 (by decide), e83, if_pos hk]
        exact fin 51 (Or.inr ⟨k3, rfl, hk⟩)
      · have k3' : ¬ nI k = (3 : Int32) := fun z => k3 ((nI_eq (b := 3) (by omega) (by decide)).mp z)
        rw [if_neg k3', if_neg k3']
        exact bad
  · have hd2 : dp = 20 := by omega
    have z2 : Zf (failB B w 2 (tkp L i)) w 2 (tkp L i) := hb.1.fail (by decide) (by decide)
    have eDA : F_Body_deepen N 9 A = some (.inr A.sh.length, refA A 2 (nI (tkp L i))) := by
      unfold F_Body_deepen
      rw [ck_t (rS_9 hG), bnd_t, e6, if_neg (show ¬ nI dp < (20 : Int32) from nI_nlt (b := 20) (by omega) (by omega)), rf_t (rP_9_0 hG), rf_t (rP_9_0 hG), ck_t (rS_1 hG), bnd_t, ha.1.2.2.2.2.2.1, ck_t (rS_1 hG), ev_refuse hG]
      rfl
    obtain ⟨Bd, hBd⟩ : ∃ Bd, Bd = (failB B w 2 (tkp L i)).sD w 41 ((failB B w 2 (tkp L i)).D w 41 + 1) := ⟨_, rfl⟩
    have eDB : F_MText_deeper N w B = some ((), Bd) := by
      unfold F_MText_deeper B_MText_deeper_25
      rw [ck_t (TS hb.1.1.1), bnd_t, hb.1.2.2.2.1, if_pos rfl, bnd_t, f6, if_pos (show nI dp = (20 : Int32) by rw [hd2]; rfl), bnd_t, hb.1.2.2.1, bC_t (show F_MText_fails N w (2 : Int32) (nI i) B = _ from ev_fails (k := 2) hb.1 hi), ck_t (TS z2.1), bnd_t, bnd_t, hBd]
    have zd : Zf Bd w 2 (tkp L i) := by rw [hBd]; exact z2.sD (by omega)
    have ad : Bd.D w 11 = nI i := by rw [hBd, rdf (by decide)]; unfold failB; rw [rdf (by decide), rdf (by decide)]; exact hb.1.2.2.1
    have sd : same (SRo w) B Bd := by rw [hBd]; exact SRo_fail.tr (same.rf.sD (by unfold SRo; omega))
    have hz2 : Zf (Bd.sD w 11 (nI (i + 1))) w 2 (tkp L i) := ⟨zd.1, by rw [rdf (by decide)]; exact zd.2.1, by rw [rdf (by decide)]; exact zd.2.2.1, by decide, by decide, i + 1, rds, by omega⟩
    have hz3 := hz2.sD (a := w) (f := 41) (v := (Bd.sD w 11 (nI (i + 1))).D w 41 - 1) (by omega)
    rw [eDA, bT_z, eDB, bC_v, bnd_t, ad, nI_1, bnd_t, bC_t (hO _ 2 _ hz2).2, bnd_t, bnd_t, bnd_t, if_neg hz3.n0]
    unfold B_MText_unary_96
    rw [ck_t (TS hz3.1), rf_t (TP_8 hz3.1), ar_t (TA_8 hz3.1), wrI (by omega) (by decide)]
    exact Out.no (k := 2) hb.1 (by decide) (by decide) hi (hz3.sD (by omega)) (sd.tr (((same.rf.sD (by unfold SRo; omega)).sD (by unfold SRo; omega)).sD (by unfold SRo; omega)))
/-- a UNARY -/
theorem jo_unary {A B : Hp} {i cs : Nat} {o : Orc_BodyE} {o' : Orc_TextE} (hO : ZO w o') (ih : dp < 20 → IH0 o o' p w T L g E Nm Pv nL lc (dp + 1) ln lk lf hd) (ih5 : dp < 20 → IH5 o o' p w T L g E Nm Pv nL lc (dp + 1) ln lk lf hd) (ha : (JA p T L g E Nm Pv nL lc dp ln lk lf hd i cs A)) (hb : (JB w T L g E Nm Pv nL lc dp ln lk lf hd i B)) (hC : (CX p E Nm nL lc dp ln lk lf hd)) (hcs : cs + 8 ≤ 2 * tkp L i) (hN : 7000 ≤ N) : (Out (SBo p (E 0 0)) (SRo w) w L i A B (F_Body_unary N o 9 A) (F_MText_unary N o' w B) ((PE p w T L g E Nm Pv nL lc dp ln lk lf hd 5 i cs A B))) := by
  have h81 := (ha.1.2.2.2.2.2.2.2.2.2.2.2.1 i ha.1.2.2.2.2.2.2.1).2.1
  by_cases q2 : tkk L i = 2
  · exact jo_named ha hb hC (by omega) hN q2
  by_cases q3 : tkk L i = 3
  · exact jo_num ha hb hC (by omega) (Or.inl ⟨q3, rfl⟩)
  by_cases q4 : tkk L i = 4
  · exact jo_num ha hb hC (by omega) (Or.inr ⟨q4, rfl⟩)
  by_cases q12 : tkk L i = 12
  · exact jo_par hO ih ha hb hC hcs q12
  by_cases q19 : tkk L i = 19 ∨ tkk L i = 25
  · exact jo_signed hO ih5 ha hb hC hcs q19
  by_cases qc : tkk L i = 49 ∨ tkk L i = 51 ∨ tkk L i = 76 ∨ tkk L i = 77 ∨ tkk L i = 78 ∨ tkk L i = 79
  · exact jo_calls hO ih ha hb hC hcs qc
  by_cases q80 : tkk L i = 80
  · exact jo_has hO ih ha hb hC hcs hN q80
  by_cases q71 : tkk L i = 71
  · exact jo_word ha hb hC (by omega) (Or.inl ⟨q71, rfl, rfl⟩)
  by_cases q72 : tkk L i = 72
  · exact jo_word ha hb hC (by omega) (Or.inr (Or.inl ⟨q72, rfl, rfl⟩))
  by_cases q73 : tkk L i = 73
  · exact jo_word ha hb hC (by omega) (Or.inr (Or.inr ⟨q73, rfl, rfl⟩))
  by_cases q74 : tkk L i = 74
  · exact jo_self ha hb hC (by omega) (Or.inl ⟨q74, rfl, rfl⟩)
  by_cases q75 : tkk L i = 75
  · exact jo_self ha hb hC (by omega) (Or.inr ⟨q75, rfl, rfl⟩)
  exact jo_none ha hb hC (by omega)
end Par
