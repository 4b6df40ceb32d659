/-! ===== wanted kinds, parentheses, calls, signs ahead ===== -/
def hld (kw : Nat) : Nat := if kw = 1 then 1 else 0
def PW (p w T : Nat) (L : List (Nat × Nat × Int32 × Bool × Nat)) (g : Nat → Nat) (E : Nat → Nat → Nat) (Nm : Nat → Nat → List Nat) (Pv : Nat → Nat → Int32) (nL lc dp : Nat) (ln : Nat → List Nat) (lk lf : Nat → Nat) (hd : Nat → Int32) (kw i cs : Nat) (A B : Hp) (j : Nat) (v : Int32) (A' : Hp) (B' : Hp) : Prop :=
  ∃ cs', v = nI (pl kw) ∧ (JA p T L g E Nm Pv nL lc dp ln lk lf hd j (cs' + hld kw) A') ∧ (JB w T L g E Nm Pv nL lc dp ln lk lf hd j B') ∧ i < j ∧ cs ≤ cs' ∧ cs' + 2 * tkp L i ≤ cs + 2 * tkp L j ∧ cfr p cs A A' ∧ mfr w i B B' ∧ (kw = 1 → A'.D (p + 191) cs' = 43) ∧ ∀ cd mn nu, Agr p w cs cs' i j A' B' cd mn nu → DE (tyF L) mn nu cd E nL lc lk hd 0 dp i j cs cs' (pl kw)
section Par
variable {N p w T : Nat} {L : List (Nat × Nat × Int32 × Bool × Nat)} {g : Nat → Nat} {E : Nat → Nat → Nat} {Nm : Nat → Nat → List Nat} {Pv : Nat → Nat → Int32} {nL lc dp : Nat} {ln : Nat → List Nat} {lk lf : Nat → Nat} {hd : Nat → Int32}
/-- what is known of an expression's reading at this depth -/
def IH0 (o : Orc_BodyE) (o' : Orc_TextE) (p w T : Nat) (L : List (Nat × Nat × Int32 × Bool × Nat)) (g : Nat → Nat) (E : Nat → Nat → Nat) (Nm : Nat → Nat → List Nat) (Pv : Nat → Nat → Int32) (nL lc dp : Nat) (ln : Nat → List Nat) (lk lf : Nat → Nat) (hd : Nat → Int32) : Prop := ∀ i cs A B, (JA p T L g E Nm Pv nL lc dp ln lk lf hd i cs A) → (JB w T L g E Nm Pv nL lc dp ln lk lf hd i B) → cs + 8 ≤ 2 * tkp L i → (Out (SBo p (E 0 0)) (SRo w) w L i A B (o.1 9 0 A) (o'.1 w B) ((PE p w T L g E Nm Pv nL lc dp ln lk lf hd 0 i cs A B)))
def IH5 (o : Orc_BodyE) (o' : Orc_TextE) (p w T : Nat) (L : List (Nat × Nat × Int32 × Bool × Nat)) (g : Nat → Nat) (E : Nat → Nat → Nat) (Nm : Nat → Nat → List Nat) (Pv : Nat → Nat → Int32) (nL lc dp : Nat) (ln : Nat → List Nat) (lk lf : Nat → Nat) (hd : Nat → Int32) : Prop := ∀ i cs A B, (JA p T L g E Nm Pv nL lc dp ln lk lf hd i cs A) → (JB w T L g E Nm Pv nL lc dp ln lk lf hd i B) → cs + 8 ≤ 2 * tkp L i → (Out (SBo p (E 0 0)) (SRo w) w L i A B (o.2 9 A) (o'.2 w B) ((PE p w T L g E Nm Pv nL lc dp ln lk lf hd 5 i cs A B)))
theorem pos_j {B : Hp} {j : Nat} (h : LB B w L T g j) : tkp L j ≤ 6000 := by
  have := (h.2.2.2.2.2.2.2.2.2.1 j h.2.2.2.2.1).1
  have h6 := h.2.2.2.2.2.2.2.1
  omega
theorem jo_want {A B : Hp} {i cs kw : Nat} {o : Orc_BodyE} {o' : Orc_TextE} (ih : IH0 o o' p w T L g E Nm Pv nL lc dp ln lk lf hd) (ha : (JA p T L g E Nm Pv nL lc dp ln lk lf hd i cs A)) (hb : (JB w T L g E Nm Pv nL lc dp ln lk lf hd i B)) (hC : (CX p E Nm nL lc dp ln lk lf hd)) (hcs : cs + 8 ≤ 2 * tkp L i) (hkw : kw ≤ 4) : (Out (SBo p (E 0 0)) (SRo w) w L i A B (F_Body_want N o 9 (nI kw) A) (F_MText_wants N o' w (nI (pl kw)) B) (fun j v A' _ B' => (PW p w T L g E Nm Pv nL lc dp ln lk lf hd kw i cs A B) j v A' B')) := by
  have hG := ha.1.1.1
  have hi := ha.1.2.2.2.2.2.2.1
  have hpl := pl_ok hkw
  unfold F_Body_want F_MText_wants
  rw [ck_t (rS_9 hG), rf_t (rP_9_0 hG), ck_t (rS_1 hG), bnd_t, ha.1.2.2.2.2.2.1, ck_t (TS hb.1.1.1), bnd_t, hb.1.2.2.1]
  refine Out.bind (ih i cs A B ha hb hcs) ?_ (fun y B' k p0 hz => ⟨(), B', by rw [bnd_t, if_neg hz.n0], hz, same.rf⟩)
  intro j v A' y B' hij hxa hsb hQ
  obtain ⟨k, cs', rfl, rfl, hk, hA, hB, hlt, hc1, hc2, hcf, hmf, hde⟩ := hQ
  have hG' := hA.1.1.1
  have hi' := hA.1.2.2.2.2.2.2.1
  have hpj := pos_j hB.1
  have hP' := hA.pP hC
  rw [if_neg (show ¬ nI kw = (-1 : Int32) from fun z => by
    have z2 : (nI kw).toInt = (-1 : Int32).toInt := by rw [z]
    rw [nI_toInt (by omega), show (-1 : Int32).toInt = -1 by decide] at z2
    omega), bC_t (ev_asv hkw), bnd_t (e := B'.D w 9), hB.1.2.2.2.1, if_pos (show (0 : Int32) = 0 from rfl)]
  by_cases q : k = pl kw
  · subst q
    rw [if_pos rfl, if_pos rfl]
    unfold B_Body_want_36
    by_cases q1 : kw = 1
    · subst q1
      have hA2 := hA.add (v := 43) hC
      rw [if_pos (show nI 1 = (1 : Int32) from rfl), ck_t (rS_9 hG'), rf_t hA.2.2.1, ck_t (PrS hP'), bC_t (ev_add hA hP' (by omega))]
      refine Or.inr ⟨_, _, _, _, j, rfl, rfl, by omega, hi', add_ex.mono (fun _ _ h => h) (by omega), same.rf, cs', rfl, hA2, hB, hlt, hc1, hc2, hcf.tr (cfr_add (Nat.le_refl _)) hc1, hmf, fun _ => by rw [code_add, if_pos rfl], fun cd mn nu hag => hde cd mn nu (hag.sub (cfr_add (Nat.le_refl _)) mfr.rf (Nat.le_refl _) (Nat.le_refl _) (Nat.le_refl _) (Nat.le_refl _))⟩
    · rw [if_neg (show ¬ nI kw = (1 : Int32) from fun z => q1 ((nI_eq (b := 1) (by omega) (by decide)).mp z))]
      refine Or.inr ⟨_, _, _, _, j, rfl, rfl, by omega, hi', exA.rf.mono (fun _ _ h => h) (by omega), same.rf, cs', rfl, ?_, hB, hlt, hc1, hc2, hcf, hmf, fun z => absurd z q1, hde⟩
      rw [show hld kw = 0 from if_neg q1]
      exact hA
  · have qn : ¬ nI k = nI (pl kw) := fun z => q ((nI_eq (by omega) (by omega)).mp z)
    rw [if_neg qn, if_neg qn, rf_t (rP_9_0 hG'), ck_t (rS_1 hG'), ev_refuse hG', bT_z, bC_t (show F_MText_fails N w (5 : Int32) (nI i) B' = _ from ev_fails (k := 5) hB.1 hi)]
    exact Out.no (k := 5) hB.1 (by decide) (by decide) hi' (hB.1.fail (by decide) (by decide)) SRo_fail
/-- an expression of any kind -/
theorem jo_any {A B : Hp} {i cs : Nat} {o : Orc_BodyE} {o' : Orc_TextE} (ih : IH0 o o' p w T L g E Nm Pv nL lc dp ln lk lf hd) (ha : (JA p T L g E Nm Pv nL lc dp ln lk lf hd i cs A)) (hb : (JB w T L g E Nm Pv nL lc dp ln lk lf hd i B)) (hcs : cs + 8 ≤ 2 * tkp L i) : (Out (SBo p (E 0 0)) (SRo w) w L i A B (F_Body_want N o 9 (-1) A) (o'.1 w B) ((PE p w T L g E Nm Pv nL lc dp ln lk lf hd 0 i cs A B))) := by
  have hG := ha.1.1.1
  have e : F_Body_want N o 9 (-1) A = o.1 9 0 A := by
    unfold F_Body_want B_Body_want_36
    rw [ck_t (rS_9 hG), rf_t (rP_9_0 hG), ck_t (rS_1 hG), bnd_t]
    simp only [if_true, show ¬ (-1 : Int32) = 1 by decide, if_false]
    cases o.1 9 0 A with
    | none => rfl
    | some q => obtain ⟨v, H⟩ := q; cases v <;> rfl
  rw [e]
  exact ih i cs A B ha hb hcs
theorem fz_o1 {k p0 : Nat} {o' : Orc_TextE} {B : Hp} (hz0 : ∀ B : Hp, Zf B w k p0 → o'.1 w B = some (0, B)) (h : Zf B w k p0) {kw : Int32} : F_MText_wants N o' w kw B = some ((), B) := by
  unfold F_MText_wants
  rw [ck_t (TS h.1), bnd_t, bC_t (hz0 B h), bnd_t, if_neg h.n0]
/-- in a fault an expression is nothing -/
def ZO (w : Nat) (o' : Orc_TextE) : Prop := ∀ (B : Hp) (k p0 : Nat), Zf B w k p0 → o'.1 w B = some (0, B) ∧ o'.2 w B = some (0, B)
theorem fz_wants {k p0 : Nat} {o' : Orc_TextE} {B : Hp} {kw : Int32} (hO : ZO w o') (h : Zf B w k p0) : F_MText_wants N o' w kw B = some ((), B) := fz_o1 (fun B hB => (hO B k p0 hB).1) h
theorem fz_wantsIn {k p0 : Nat} {o' : Orc_TextE} {B : Hp} {kw : Int32} (hO : ZO w o') (h : Zf B w k p0) : ∃ B', F_MText_wantsIn N o' w kw B = some ((), B') ∧ Zf B' w k p0 ∧ same (SRo w) B B' := by
  obtain ⟨B', e1, e2, e3⟩ := fz_closes (N := N) h
  refine ⟨B', ?_, e2, e3⟩
  unfold F_MText_wantsIn
  rw [ck_t (TS h.1), bC_t (fz_opens h), bC_t (fz_wants hO h), bC_t e1]
/-- ( E ) of a wanted kind -/
theorem jo_inP {A B : Hp} {i cs kw : Nat} {o : Orc_BodyE} {o' : Orc_TextE} (hO : ZO w o') (ih : dp < 20 → IH0 o o' p w T L g E Nm Pv nL lc (dp + 1) ln lk lf hd) (ha : (JA p T L g E Nm Pv nL lc dp ln lk lf hd i cs A)) (hb : (JB w T L g E Nm Pv nL lc dp ln lk lf hd i B)) (hC : (CX p E Nm nL lc dp ln lk lf hd)) (hcs : cs + 8 ≤ 2 * tkp L i) (hkw : kw ≤ 4) (h1 : kw ≠ 1) : (Out (SBo p (E 0 0)) (SRo w) w L i A B (F_Body_inParens N o 9 (nI kw) A) (F_MText_wantsIn N o' w (nI kw) B) (fun j v A' _ B' => ∃ cs' m, v = nI kw ∧ j = m + 1 ∧ (JA p T L g E Nm Pv nL lc dp ln lk lf hd j cs' A') ∧ (JB w T L g E Nm Pv nL lc dp ln lk lf hd j B') ∧ i + 1 < m ∧ tkk L i = 12 ∧ tkk L m = 13 ∧ dp < 20 ∧ cs ≤ cs' ∧ cs' + 2 * tkp L i + 4 ≤ cs + 2 * tkp L j ∧ cfr p cs A A' ∧ mfr w i B B' ∧ ∀ cd mn nu, Agr p w cs cs' i j A' B' cd mn nu → DE (tyF L) mn nu cd E nL lc lk hd 0 (dp + 1) (i + 1) m cs cs' kw)) := by
  have hG := ha.1.1.1
  have hp := hC.2.1
  have hpl : pl kw = kw := if_neg h1
  unfold F_Body_inParens F_MText_wantsIn
  rw [ck_t (rS_9 hG), ck_t (TS hb.1.1.1)]
  refine Out.bind (jo_opens ha hb hC) ?_ ?_
  rotate_left
  · intro y B' k p0 hz
    obtain ⟨B2, e1, e2, e3⟩ := fz_closes (N := N) hz
    exact ⟨(), B2, by rw [bC_t (fz_wants hO hz), bC_t e1], e2, e3⟩
  intro j v A1 y B1 hij hxa hsb hQ
  obtain ⟨rfl, h12, h20, hA1, hB1, hA, hB⟩ := hQ
  have hC' : (CX p E Nm nL lc (dp + 1) ln lk lf hd) := hC.dep (by have := hC.2.2.2.2.1; omega) (by omega)
  obtain ⟨q1, q2, q3⟩ := pos_lt hb.1 (show 2 ≤ tkk L i by omega)
  have ow := jo_want (N := N) (kw := kw) (ih h20) hA hB hC' (by omega) hkw
  rw [hpl] at ow
  refine Out.bind ow ?_ ?_
  rotate_left
  · intro y B' k p0 hz
    obtain ⟨B2, e1, e2, e3⟩ := fz_closes (N := N) hz
    exact ⟨(), B2, by rw [bC_t e1], e2, e3⟩
  intro m v A2 y B2 hij2 hxa2 hsb2 hQ
  obtain ⟨cs', hv, hA2, hB2, hlt, hc1, hc2, hcf, hmf, -, hde⟩ := hQ
  rw [hpl] at hv hde
  subst hv
  rw [show hld kw = 0 from if_neg h1] at hA2
  refine Out.bind (jo_closes (N := N) hA2 hB2 hC h20) ?_ (fun y B' k p0 hz => ⟨(), B', rfl, hz, same.rf⟩)
  intro j v A3 y B3 hij3 hxa3 hsb3 hQ
  obtain ⟨rfl, h13, rfl, rfl, hA3, hB3⟩ := hQ
  have hi3 := hA3.1.2.2.2.2.2.2.1
  obtain ⟨q4, q5, q6⟩ := pos_lt hB2.1 (show 2 ≤ tkk L m by omega)
  have cf3 : ∀ x, ((advA A2 L m).sD 9 6 (nI dp)).D (p + 191) x = A2.D (p + 191) x := fun x => by rw [rdw (by omega), code_adv hp]
  have cf1 : ∀ x, A1.D (p + 191) x = A.D (p + 191) x := fun x => by rw [hA1, code_adv hp, rdw (by omega)]
  have mf1 : mfr w i B B1 := by rw [hB1]; exact (mfr_at (Or.inr trivial)).tr (mfr_at (Or.inr trivial)) (Nat.le_refl _)
  have mf3 : ∀ z, mfr w z B2 ((B2.sD w 11 (nI (m + 1))).sD w 41 (nI dp)) := fun z => (mfr_at (Or.inr trivial)).tr (mfr_at (Or.inr trivial)) (Nat.le_refl _)
  refine Or.inr ⟨_, _, _, _, m + 1, rfl, rfl, by omega, hi3, exA.rf.mono (fun _ _ h => h) (by omega), same.rf, cs', m, rfl, rfl, hA3, hB3, by omega, h12, h13, h20, hc1, by omega, fun x hx => ?_, (mf1.tr (hmf.tr (mf3 _) (Nat.le_refl _)) (by omega)), fun cd mn nu hag => hde cd mn nu (hag.sub (fun x _ => cf3 x) (mf3 m) (Nat.le_refl _) (Nat.le_refl _) (by omega) (by omega))⟩
  rw [cf3 x, hcf x hx, cf1 x]
/-- a call -/
theorem jo_call {A B : Hp} {i cs wd kin op kout : Nat} {o : Orc_BodyE} {o' : Orc_TextE} (hO : ZO w o') (ih : dp < 20 → IH0 o o' p w T L g E Nm Pv nL lc (dp + 1) ln lk lf hd) (ha : (JA p T L g E Nm Pv nL lc dp ln lk lf hd i cs A)) (hb : (JB w T L g E Nm Pv nL lc dp ln lk lf hd i B)) (hC : (CX p E Nm nL lc dp ln lk lf hd)) (hcs : cs + 8 ≤ 2 * tkp L i) (hk : 2 ≤ tkk L i) (hw : tyK (tkk L i) = wd) (ht : calT wd kin op kout) : (Out (SBo p (E 0 0)) (SRo w) w L i A B (F_Body_called N o 9 (nI kin) (nI op) (nI kout) A) (bC (F_MText_wantsIn N o' w (nI kin) (B.sD w 11 (nI (i + 1)))) (fun _ H => some (nI kout, H))) ((PE p w T L g E Nm Pv nL lc dp ln lk lf hd 5 i cs A B))) := by
  have hG := ha.1.1.1
  have hp := hC.2.1
  have hn := hb.1.gt hk
  obtain ⟨q1, q2, q3⟩ := pos_lt hb.1 hk
  have hA1 := ha.adv hC hn
  have hB1 := hb.nx hn
  have hkin : kin ≤ 4 ∧ kin ≠ 1 ∧ (kout = 0 ∨ kout = 2 ∨ kout = 3 ∨ kout = 4) := by
    unfold calT at ht
    simp only [List.mem_cons, Prod.mk.injEq, List.not_mem_nil, or_false] at ht
    omega
  unfold F_Body_called
  rw [ck_t (rS_9 hG), rf_t (rP_9_0 hG), ck_t (rS_1 hG), bC_t (ev_advance ha.1 hn)]
  refine Out.pre (Out.bind (jo_inP (N := N) hO ih hA1 hB1 hC (by omega) hkin.1 hkin.2.1) ?_ (fun y B' k p0 hz => ⟨_, B', rfl, hz, same.rf⟩)) (adv_ex.mono SL_SBo (Nat.le_refl _)) (same.rf.sD (by unfold SRo; omega)) (show i ≤ i + 1 by omega) hn (by omega)
  intro j v A2 y B2 hij2 hxa2 hsb2 hQ
  obtain ⟨cs', m, rfl, rfl, hA2, hB2, hlt, h12, h13, h20, hc1, hc2, hcf, hmf, hde⟩ := hQ
  have hi2 := hA2.1.2.2.2.2.2.2.1
  have hpj := pos_j hB2.1
  have hP2 := hA2.pP hC
  have hA3 := hA2.add (v := nI op) hC
  rw [rf_t hA2.2.2.1, ck_t (PrS hP2), bC_t (ev_add hA2 hP2 (by omega))]
  refine Or.inr ⟨_, _, _, _, m + 1, rfl, rfl, by omega, hi2, add_ex.mono (fun _ _ h => h) (by omega), same.rf, kout, cs' + 1, rfl, rfl, hkin.2.2, hA3, hB2, by omega, by omega, by omega, fun x hx => ?_, (mfr_at (Or.inr trivial)).tr hmf (by omega), ?_⟩
  · rw [code_add, if_neg (by omega), hcf x hx, code_adv hp]
  · intro cd mn nu hag
    have cb := hag.1 cs' (by omega) (by omega)
    rw [code_add, if_pos rfl] at cb
    refine DE.cal (wd := wd) (kin := kin) (op := op) ht (by unfold tyF; rw [hw]) (by unfold tyF; rw [h12]; rfl) h20 (hde cd mn nu (hag.sub (cfr_add (Nat.le_refl _)) mfr.rf (Nat.le_refl _) (by omega) (by omega) (Nat.le_refl _))) (by unfold tyF; rw [h13]; rfl) cb
theorem sD2 {B : Hp} {a f : Nat} {u v : Int32} : (B.sD a f u).sD a f v = B.sD a f v := by
  unfold Hp.sD
  simp only [mkH_D, mkH_P, mkH_L, mkH_sh, mkH_sl]
  congr 1
  funext x y
  unfold up2
  (repeat' split) <;> rfl
theorem un_A {A : Hp} {i cs : Nat} {o : Orc_BodyE} (ha : (JA p T L g E Nm Pv nL lc dp ln lk lf hd i cs A)) : F_Body_unary N o 9 A = if tkk L i = 2 then F_Body_nameValue N 9 A else if tkk L i = 12 then F_Body_inParens N o 9 (-1) A else if tkk L i = 19 ∨ tkk L i = 25 then F_Body_signed N o 9 (nI (tkk L i)) A else if tkk L i = 49 then F_Body_called N o 9 2 76 0 A else if tkk L i = 51 then F_Body_called N o 9 0 77 2 A else if tkk L i = 76 then F_Body_called N o 9 0 39 0 A else if tkk L i = 77 then F_Body_called N o 9 0 40 0 A else if tkk L i = 78 then F_Body_called N o 9 4 41 3 A else if tkk L i = 79 then F_Body_called N o 9 2 75 2 A else if tkk L i = 80 then F_Body_readHas N o 9 A else F_Body_plainValue N 9 (nI (tkk L i)) A := by
  have hG := ha.1.1.1
  have idA : ∀ m : Option (Ot Int32 × Hp), bT m (fun v H => some (.inl v, H)) = m := fun m => by
    cases m with
    | none => rfl
    | some q => obtain ⟨v, H⟩ := q; cases v <;> rfl
  unfold F_Body_unary
  simp only [idA]
  rw [ck_t (rS_9 hG), rf_t (rP_9_0 hG), ck_t (rS_1 hG), bnd_t, ha.1.2.2.2.2.1]
  simp only [(show (nI (tkk L i) = (2 : Int32)) = (tkk L i = 2) from kc_eq ha.1 (by decide)), (show (nI (tkk L i) = (12 : Int32)) = (tkk L i = 12) from kc_eq ha.1 (by decide)), (show (nI (tkk L i) = (19 : Int32)) = (tkk L i = 19) from kc_eq ha.1 (by decide)), (show (nI (tkk L i) = (25 : Int32)) = (tkk L i = 25) from kc_eq ha.1 (by decide)), (show (nI (tkk L i) = (49 : Int32)) = (tkk L i = 49) from kc_eq ha.1 (by decide)), (show (nI (tkk L i) = (51 : Int32)) = (tkk L i = 51) from kc_eq ha.1 (by decide)), (show (nI (tkk L i) = (76 : Int32)) = (tkk L i = 76) from kc_eq ha.1 (by decide)), (show (nI (tkk L i) = (77 : Int32)) = (tkk L i = 77) from kc_eq ha.1 (by decide)), (show (nI (tkk L i) = (78 : Int32)) = (tkk L i = 78) from kc_eq ha.1 (by decide)), (show (nI (tkk L i) = (79 : Int32)) = (tkk L i = 79) from kc_eq ha.1 (by decide)), (show (nI (tkk L i) = (80 : Int32)) = (tkk L i = 80) from kc_eq ha.1 (by decide)), rf_t (rP_9_0 hG), ck_t (rS_1 hG), bnd_t, ha.1.2.2.2.2.1]
  by_cases c1 : tkk L i = 19
  · simp only [c1, true_or, if_true]
  · by_cases c2 : tkk L i = 25
    · simp only [c2, or_true, if_true, show ¬ (25 : Nat) = 19 by decide, if_false]
    · simp only [c1, c2, or_self, if_false]
/-- ( E ), the calls -/
theorem jo_par {A B : Hp} {i cs : Nat} {o : Orc_BodyE} {o' : Orc_TextE} (hO : ZO w o') (ih : dp < 20 → IH0 o o' p w T L g E Nm Pv nL lc (dp + 1) ln lk lf hd) (ha : (JA p T L g E Nm Pv nL lc dp ln lk lf hd i cs A)) (hb : (JB w T L g E Nm Pv nL lc dp ln lk lf hd i B)) (hC : (CX p E Nm nL lc dp ln lk lf hd)) (hcs : cs + 8 ≤ 2 * tkp L i) (hk : tkk L i = 12) : (Out (SBo p (E 0 0)) (SRo w) w L i A B (F_Body_unary N o 9 A) (F_MText_unary N o' w B) ((PE p w T L g E Nm Pv nL lc dp ln lk lf hd 5 i cs A B))) := by
  have hG := ha.1.1.1
  have hp := hC.2.1
  obtain ⟨q1, q2, q3⟩ := pos_lt hb.1 (show 2 ≤ tkk L i by omega)
  have eB : F_MText_unary N o' w B = bC (F_MText_opens N w B) fun v32 H33 => bC (o'.1 w H33) fun v35 H36 => bC (F_MText_closes N w H36) fun v38 H39 => some (v35, H39) := by
    rw [un_ref hb.1 (by omega) (by omega), pr_ref hb.1, if_neg (by omega)]
    unfold B_MText_primary_51
    rw [ck_t (TS hb.1.1.1), bnd_t, hb.1.2.2.2.1, if_pos (by decide), hk, if_neg (by decide), bnd_t, hb.1.2.2.1, bnd_t, if_neg (by decide), if_neg (by decide), if_pos (by rfl), bnd_t, sD2, ← hb.1.2.2.1, sD_self]
    cases (bC (F_MText_opens N w B) fun v32 H33 => bC (o'.1 w H33) fun v35 H36 => bC (F_MText_closes N w H36) fun v38 H39 => some (v35, H39)) <;> rfl
  rw [eB, un_A ha, if_neg (by omega), if_pos hk]
  unfold F_Body_inParens
  rw [ck_t (rS_9 hG)]
  refine Out.bind (jo_opens ha hb hC) ?_ ?_
  rotate_left
  · intro y B' k p0 hz
    obtain ⟨B2, e1, e2, e3⟩ := fz_closes (N := N) hz
    exact ⟨0, B2, by rw [bC_t (hO B' k p0 hz).1, bC_t e1], e2, e3⟩
  intro j v A1 y B1 hij hxa hsb hQ
  obtain ⟨rfl, h12, h20, hA1, hB1, hA, hB⟩ := hQ
  refine Out.bind (jo_any (N := N) (ih h20) hA hB (by omega)) ?_ ?_
  rotate_left
  · intro y B' k p0 hz
    obtain ⟨B2, e1, e2, e3⟩ := fz_closes (N := N) hz
    exact ⟨y, B2, by rw [bC_t e1], e2, e3⟩
  intro m v A2 y B2 hij2 hxa2 hsb2 hQ
  obtain ⟨k, cs', rfl, rfl, hkk, hA2, hB2, hlt, hc1, hc2, hcf, hmf, hde⟩ := hQ
  refine Out.bind (jo_closes (N := N) hA2 hB2 hC h20) ?_ (fun y B' k p0 hz => ⟨_, B', rfl, hz, same.rf⟩)
  intro j v A3 y B3 hij3 hxa3 hsb3 hQ
  obtain ⟨rfl, h13, rfl, rfl, hA3, hB3⟩ := hQ
  have hi3 := hA3.1.2.2.2.2.2.2.1
  obtain ⟨q4, q5, q6⟩ := pos_lt hB2.1 (show 2 ≤ tkk L m by omega)
  have cf3 : ∀ x, ((advA A2 L m).sD 9 6 (nI dp)).D (p + 191) x = A2.D (p + 191) x := fun x => by rw [rdw (by omega), code_adv hp]
  have cf1 : ∀ x, A1.D (p + 191) x = A.D (p + 191) x := fun x => by rw [hA1, code_adv hp, rdw (by omega)]
  have mf1 : mfr w i B B1 := by rw [hB1]; exact (mfr_at (Or.inr trivial)).tr (mfr_at (Or.inr trivial)) (Nat.le_refl _)
  have mf3 : ∀ z, mfr w z B2 ((B2.sD w 11 (nI (m + 1))).sD w 41 (nI dp)) := fun z => (mfr_at (Or.inr trivial)).tr (mfr_at (Or.inr trivial)) (Nat.le_refl _)
  refine Or.inr ⟨_, _, _, _, m + 1, rfl, rfl, by omega, hi3, exA.rf.mono (fun _ _ h => h) (by omega), same.rf, k, cs', rfl, rfl, hkk, hA3, hB3, by omega, hc1, by omega, fun x hx => ?_, (mf1.tr (hmf.tr (mf3 _) (Nat.le_refl _)) (by omega)), fun cd mn nu hag => ?_⟩
  · rw [cf3 x, hcf x hx, cf1 x]
  · exact DE.par (by unfold tyF; rw [hk]; rfl) h20 (hde cd mn nu (hag.sub (fun x _ => cf3 x) (mf3 m) (Nat.le_refl _) (Nat.le_refl _) (by omega) (by omega))) (by unfold tyF; rw [h13]; rfl)
theorem jo_calls {A B : Hp} {i cs : Nat} {o : Orc_BodyE} {o' : Orc_TextE} (hO : ZO w o') (ih : dp < 20 → IH0 o o' p w T L g E Nm Pv nL lc (dp + 1) ln lk lf hd) (ha : (JA p T L g E Nm Pv nL lc dp ln lk lf hd i cs A)) (hb : (JB w T L g E Nm Pv nL lc dp ln lk lf hd i B)) (hC : (CX p E Nm nL lc dp ln lk lf hd)) (hcs : cs + 8 ≤ 2 * tkp L i) (hk : tkk L i = 49 ∨ tkk L i = 51 ∨ tkk L i = 76 ∨ tkk L i = 77 ∨ tkk L i = 78 ∨ tkk L i = 79) : (Out (SBo p (E 0 0)) (SRo w) w L i A B (F_Body_unary N o 9 A) (F_MText_unary N o' w B) ((PE p w T L g E Nm Pv nL lc dp ln lk lf hd 5 i cs A B))) := by
  have idB : ∀ m : Option (Int32 × Hp), bC m (fun v H => some (v, H)) = m := fun m => by
    cases m with
    | none => rfl
    | some q => rfl
  have eB : ∀ kin kout : Nat, B_MText_primary_51 N o' w (nI i) (nI (tyK (tkk L i))) B = (bC (F_MText_wantsIn N o' w (nI kin) (B.sD w 11 (nI (i + 1)))) (fun _ H => some (nI kout, H))) → F_MText_unary N o' w B = bC (F_MText_wantsIn N o' w (nI kin) (B.sD w 11 (nI (i + 1)))) (fun _ H => some (nI kout, H)) := by
    intro kin kout h
    rw [un_ref hb.1 (by omega) (by omega), pr_ref hb.1, if_neg (by omega), h, idB]
  have st : B_MText_primary_51 N o' w (nI i) (nI (tyK (tkk L i))) B = B_MText_primary_51 N o' w (nI i) (nI (tyK (tkk L i))) B := rfl
  rcases hk with hk | hk | hk | hk | hk | hk
  · rw [eB 2 0 (by unfold B_MText_primary_51; rw [ck_t (TS hb.1.1.1), bnd_t, hb.1.2.2.2.1, if_pos (by decide), hk, if_neg (by decide), bnd_t, hb.1.2.2.1, nI_1, bnd_t, if_neg (by decide), if_neg (by decide), if_neg (by decide), if_pos (by rfl)]; simp only [show ¬ nI (tyK 49) = (239 : Int32) by decide, if_false]; rfl), un_A ha, if_neg (by omega), if_neg (by omega), if_neg (by omega), if_pos hk]
    exact jo_call (wd := 209) hO ih ha hb hC hcs (by omega) (by rw [hk]; rfl) (by unfold calT; decide)
  · rw [eB 0 2 (by unfold B_MText_primary_51; rw [ck_t (TS hb.1.1.1), bnd_t, hb.1.2.2.2.1, if_pos (by decide), hk, if_neg (by decide), bnd_t, hb.1.2.2.1, nI_1, bnd_t, if_neg (by decide), if_neg (by decide), if_neg (by decide), if_neg (by decide), if_pos (by rfl)]; simp only [show nI (tyK 51) = (211 : Int32) from rfl, if_true]; rfl), un_A ha, if_neg (by omega), if_neg (by omega), if_neg (by omega), if_neg (by omega), if_pos hk]
    exact jo_call (wd := 211) hO ih ha hb hC hcs (by omega) (by rw [hk]; rfl) (by unfold calT; decide)
  · rw [eB 0 0 (by unfold B_MText_primary_51; rw [ck_t (TS hb.1.1.1), bnd_t, hb.1.2.2.2.1, if_pos (by decide), hk, if_neg (by decide), bnd_t, hb.1.2.2.1, nI_1, bnd_t, if_neg (by decide), if_neg (by decide), if_neg (by decide), if_neg (by decide), if_neg (by decide), if_neg (by decide), if_neg (by decide), if_neg (by decide), if_neg (by decide), if_neg (by decide), if_pos (by rfl)]; simp only [show ¬ nI (tyK 76) = (211 : Int32) by decide, if_false]; rfl), un_A ha, if_neg (by omega), if_neg (by omega), if_neg (by omega), if_neg (by omega), if_neg (by omega), if_pos hk]
    exact jo_call (wd := 236) hO ih ha hb hC hcs (by omega) (by rw [hk]; rfl) (by unfold calT; decide)
  · rw [eB 0 0 (by unfold B_MText_primary_51; rw [ck_t (TS hb.1.1.1), bnd_t, hb.1.2.2.2.1, if_pos (by decide), hk, if_neg (by decide), bnd_t, hb.1.2.2.1, nI_1, bnd_t, if_neg (by decide), if_neg (by decide), if_neg (by decide), if_neg (by decide), if_neg (by decide), if_neg (by decide), if_neg (by decide), if_neg (by decide), if_neg (by decide), if_neg (by decide), if_neg (by decide), if_pos (by rfl)]; simp only [show ¬ nI (tyK 77) = (211 : Int32) by decide, if_false]; rfl), un_A ha, if_neg (by omega), if_neg (by omega), if_neg (by omega), if_neg (by omega), if_neg (by omega), if_neg (by omega), if_pos hk]
    exact jo_call (wd := 237) hO ih ha hb hC hcs (by omega) (by rw [hk]; rfl) (by unfold calT; decide)
  · rw [eB 4 3 (by unfold B_MText_primary_51; rw [ck_t (TS hb.1.1.1), bnd_t, hb.1.2.2.2.1, if_pos (by decide), hk, if_neg (by decide), bnd_t, hb.1.2.2.1, nI_1, bnd_t, if_neg (by decide), if_neg (by decide), if_neg (by decide), if_neg (by decide), if_neg (by decide), if_neg (by decide), if_neg (by decide), if_neg (by decide), if_neg (by decide), if_neg (by decide), if_neg (by decide), if_neg (by decide), if_pos (by rfl)]; rfl), un_A ha, if_neg (by omega), if_neg (by omega), if_neg (by omega), if_neg (by omega), if_neg (by omega), if_neg (by omega), if_neg (by omega), if_pos hk]
    exact jo_call (wd := 238) hO ih ha hb hC hcs (by omega) (by rw [hk]; rfl) (by unfold calT; decide)
  · rw [eB 2 2 (by unfold B_MText_primary_51; rw [ck_t (TS hb.1.1.1), bnd_t, hb.1.2.2.2.1, if_pos (by decide), hk, if_neg (by decide), bnd_t, hb.1.2.2.1, nI_1, bnd_t, if_neg (by decide), if_neg (by decide), if_neg (by decide), if_neg (by decide), if_neg (by decide), if_neg (by decide), if_neg (by decide), if_neg (by decide), if_neg (by decide), if_neg (by decide), if_neg (by decide), if_neg (by decide), if_neg (by decide), if_pos (by rfl)]; simp only [show nI (tyK 79) = (239 : Int32) from rfl, if_true]; rfl), un_A ha, if_neg (by omega), if_neg (by omega), if_neg (by omega), if_neg (by omega), if_neg (by omega), if_neg (by omega), if_neg (by omega), if_neg (by omega), if_pos hk]
    exact jo_call (wd := 239) hO ih ha hb hC hcs (by omega) (by rw [hk]; rfl) (by unfold calT; decide)
end Par
