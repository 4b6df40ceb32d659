/-! ===== declarations: tokens, names, telling ===== -/
section Par
variable {N p w T : Nat} {L : List (Nat × Nat × Int32 × Bool × Nat)} {g : Nat → Nat} {E : Nat → Nat → Nat} {Nm : Nat → Nat → List Nat} {Pv : Nat → Nat → Int32} {nL lc dp : Nat} {ln : Nat → List Nat} {lk lf : Nat → Nat} {hd : Nat → Int32}
theorem UA.sl {A A' : Hp} {i j cs k : Nat} (h : (UA p T L g E Nm Pv i cs A)) (hx : exA SL k A A') (hC : WU p E) (hl : LA A' L T g j) : (UA p T L g E Nm Pv j cs A') := by
  have hle := h.1.1.1.len
  obtain ⟨h1, h2, h3, h4, h5⟩ := h
  obtain ⟨hE, hp, -⟩ := hC
  refine ⟨hl, h2.ex (hx.mono SL_SBo (Nat.le_refl _)) hE hp hle, ?_, ?_, ?_⟩
  · rw [(hx.2.2.2 p 1 (by omega) (decide_eq_false (by omega))).1]; exact h3
  · rw [(hx.2.2.2 p 17 (by omega) (decide_eq_false (by omega))).1]; exact h4
  · rw [(hx.2.2.2 8 2 (by omega) (decide_eq_false (by omega))).2]; exact h5
theorem UA.adv {A : Hp} {i cs : Nat} (h : (UA p T L g E Nm Pv i cs A)) (hC : WU p E) (hi : i + 1 < L.length) : (UA p T L g E Nm Pv (i + 1) cs (advA A L i)) := h.sl adv_ex hC (adv_LA h.1 hi)
theorem UA.pP {A : Hp} {i cs : Nat} (h : (UA p T L g E Nm Pv i cs A)) (hC : WU p E) : isP A p := by
  rcases hC.2.1 with rfl | rfl
  · exact gr_P133 h.1.1.1
  · exact gr_P325 h.1.1.1
theorem LA.pP {A : Hp} {i : Nat} (h : LA A L T g i) (hp : p = 133 ∨ p = 325) : isP A p := by
  rcases hp with rfl | rfl
  · exact gr_P133 h.1.1
  · exact gr_P325 h.1.1
theorem LB.sD {B : Hp} {i a f : Nat} {v : Int32} (h : LB B w L T g i) (ha : w + 7 ≤ a ∨ (a = w ∧ 12 ≤ f)) : LB (B.sD a f v) w L T g i := by
  obtain ⟨t1, t2, t3, t4, t5, t6⟩ := h
  have r : ∀ x y, (x = w ∧ y < 12) ∨ (w < x ∧ x ≤ w + 6) → (B.sD a f v).D x y = B.D x y := fun x y h => by
    by_cases z : x = a
    · subst z; exact rdf (by omega)
    · exact rdw z
  refine ⟨t1.sD (by omega) (by omega), fun j hj => ?_, by rw [r _ _ (by omega)]; exact t3, by rw [r _ _ (by omega)]; exact t4, t5, t6⟩
  rw [r _ _ (by omega), r _ _ (by omega), r _ _ (by omega), r _ _ (by omega), r _ _ (by omega)]
  exact t2 j hj
theorem UB.nx {B : Hp} {i : Nat} (h : (UB w T L g E Nm Pv i B)) (hi : i + 1 < L.length) : (UB w T L g E Nm Pv (i + 1) (B.sD w 11 (nI (i + 1)))) := ⟨h.1.nx hi, h.2.1.ex (same.rf.sD (by unfold SRo; omega)), by rw [rdf (by decide)]; exact h.2.2.1, h.2.2.2⟩
theorem jo_utake {A B : Hp} {i k : Nat} (ha : LA A L T g i) (hb : LB B w L T g i) (hk : kvd k = true) (h2 : 2 ≤ k) : (Out (SD p) (SRd w) w L i A B (F_Lexer_take N 1 (nI k) A) (F_MText_takes N w (nI (tyK k)) B) (fun j _ A' _ B' => j = i + 1 ∧ tkk L i = k ∧ i + 1 < L.length ∧ A' = advA A L i ∧ B' = B.sD w 11 (nI (i + 1)) ∧ LA A' L T g (i + 1) ∧ LB B' w L T g (i + 1))) := by
  have hi := ha.2.2.2.2.2.2.1
  have hk' := of_decide_eq_true hk
  by_cases q : tkk L i = k
  · have hn := hb.gt (by omega)
    rw [ev_take ha q h2, ev_takes hb hk, if_pos q]
    exact Or.inr ⟨(), _, (), _, i + 1, rfl, rfl, by omega, hn, adv_ex.mono SL_SD (by omega), same.rf.sD (by unfold SRd; omega), rfl, q, hn, rfl, rfl, adv_LA ha hn, hb.nx hn⟩
  · rw [ev_take_no ha q (by omega), ev_takes hb hk, if_neg q]
    exact Out.noD (k := 1) hb (by decide) (by decide) hi (hb.fail (by decide) (by decide)) SRd_fail
theorem jo_uname {A B : Hp} {i : Nat} (ha : LA A L T g i) (hb : LB B w L T g i) (hN : 100 ≤ N) : (Out (SD p) (SRd w) w L i A B (F_Lexer_takeName N 1 A) (F_MText_name N w B) (fun j v A' y B' => j = i + 1 ∧ tkk L i = 2 ∧ i + 1 < L.length ∧ y = nI i ∧ B' = B.sD w 11 (nI (i + 1)) ∧ LA A' L T g (i + 1) ∧ LB B' w L T g (i + 1) ∧ exA SL 1 A A' ∧ ∃ s, v = some s ∧ strA A' s (nmT g L i) ∧ 626 ≤ s ∧ ∀ b, A'.P s 0 = .ref b → 626 ≤ b)) := by
  have hi := ha.2.2.2.2.2.2.1
  by_cases q : tkk L i = 2 ∧ tko L i = false
  · have hn := hb.gt (by omega)
    obtain ⟨A', s, e1, e2, e3, e4, e5, e6, e7⟩ := ev_takeName ha q.1 q.2 hN
    rw [e1, ev_name hb, if_pos q.1, if_neg (by rw [q.2]; decide)]
    exact Or.inr ⟨some s, A', _, _, i + 1, rfl, rfl, by omega, hn, e3.mono SL_SD (by omega), same.rf.sD (by unfold SRd; omega), rfl, q.1, hn, rfl, rfl, e2, hb.nx hn, e3, s, rfl, e4, e5, e6⟩
  · rw [ev_takeName_no ha q, ev_name hb]
    by_cases q1 : tkk L i = 2
    · have q2 : tko L i = true := by
        cases z : tko L i
        · exact absurd ⟨q1, z⟩ q
        · rfl
      have hn := hb.gt (by omega)
      rw [if_pos q1, if_pos q1, if_pos q2]
      exact Out.noD (k := 2) hb (by decide) (by decide) hi ((hb.nx hn).fail (by decide) (by decide)) ((same.rf.sD (by unfold SRd; omega)).tr SRd_fail)
    · rw [if_neg q1, if_neg q1]
      exact Out.noD (k := 1) hb (by decide) (by decide) hi (hb.fail (by decide) (by decide)) SRd_fail
/-- a declaration begins -/
theorem jo_begins {A B : Hp} {i n most : Nat} (ha : LA A L T g i) (hb : LB B w L T g i) (h2 : 2 ≤ tkk L i) (hn : n ≤ most) (hm : most ≤ 16) : (Out (SD p) (SRd w) w L i A B (F_Reader_beginOne N 8 (nI n) (nI most) A) (F_MText_begins N w (nI n) (nI most) B) (fun j _ A' _ B' => j = i + 1 ∧ n < most ∧ i + 1 < L.length ∧ A' = advA A L i ∧ B' = B.sD w 11 (nI (i + 1)))) := by
  have hG := ha.1.1
  have hi := ha.2.2.2.2.2.2.1
  have hnx := hb.gt h2
  unfold F_Reader_beginOne F_MText_begins
  by_cases q : n = most
  · have z2 : Zf (failB B w 2 (tkp L i)) w 2 (tkp L i) := hb.fail (by decide) (by decide)
    rw [if_neg (show ¬ nI n < nI most from nI_nlt (by omega) (by omega)), if_pos (show nI n = nI most by rw [q]), ck_t (rS_8 hG), rf_t (rP_8_0 hG), rf_t (rP_8_0 hG), ck_t (rS_1 hG), bnd_t, ha.2.2.2.2.2.1, ck_t (rS_1 hG), ev_refuse hG, bT_z, ck_t (TS hb.1.1), bnd_t, hb.2.2.1, bC_t (show F_MText_fails N w (2 : Int32) (nI i) B = _ from ev_fails (k := 2) hb hi)]
    unfold B_MText_begins_14
    obtain ⟨i', z6, z7⟩ := z2.2.2.2.2.2
    rw [ck_t (TS z2.1), bnd_t, bnd_t, if_neg z2.n0, bnd_t]
    refine Out.noD (k := 2) hb (by decide) (by decide) hi (?_ : Zf _ w 2 (tkp L i)) (SRd_fail.tr (same.rf.sD (by unfold SRd; omega)))
    rw [z6, Int32.add_zero, ← z6, sD_self]
    exact z2
  · rw [if_pos (show nI n < nI most from nI_lt (by omega) (by omega)), if_neg (show ¬ nI n = nI most from fun z => q ((nI_eq (by omega) (by omega)).mp z))]
    unfold B_Reader_beginOne_20 B_MText_begins_14
    rw [ck_t (rS_8 hG), rf_t (rP_8_0 hG), ck_t (rS_1 hG), bC_t (ev_advance ha hnx), ck_t (TS hb.1.1), bnd_t, bnd_t, hb.2.2.2.1, if_pos rfl, bnd_t, hb.2.2.1, nI_1]
    exact Or.inr ⟨(), _, (), _, i + 1, rfl, rfl, by omega, hnx, adv_ex.mono SL_SD (by omega), same.rf.sD (by unfold SRd; omega), rfl, by omega, hnx, rfl, rfl⟩
/-- a name is declared -/
theorem jo_declare {A B : Hp} {i cs so n : Nat} (ha : (UA p T L g E Nm Pv i cs A)) (hb : (UB w T L g E Nm Pv i B)) (hC : WU p E) (hN : 7000 ≤ N) (hK : E 0 0 < 56) : (Out (SD p) (SRd w) w L i A B (F_Reader_declare N 8 (nI so) (nI n) A) (F_MText_told N w (nI (so + 2)) (nI n) B) (fun j v A' y B' => j = i + 1 ∧ tkk L i = 2 ∧ i + 1 < L.length ∧ y = nI i ∧ B' = ((((B.sD w 11 (nI (i + 1))).sD (w + 8) (E 0 0) (nI i)).sD (w + 9) (E 0 0) (nI (so + 2))).sD (w + 10) (E 0 0) (nI n)).sD w 12 (nI (E 0 0 + 1)) ∧ ∃ A1 s, v = some s ∧ exA SL 1 A A1 ∧ (UA p T L g E Nm Pv (i + 1) cs A1) ∧ strA A1 s (nmT g L i) ∧ 626 ≤ s ∧ (∀ b, A1.P s 0 = .ref b → 626 ≤ b) ∧ A' = (ntA A1 (p + 2 + E 0 0) s (nI so) (nI n) 0).sD p 1 (nI (E 0 0 + 1)) ∧ fnm (Nm 1) (nmT g L i) (E 0 0) 0 = none)) := by
  have hG := ha.1.1.1
  have hi := ha.1.2.2.2.2.2.2.1
  have hp := hC.2.1
  unfold F_Reader_declare F_MText_told
  rw [ck_t (rS_8 hG), rf_t (rP_8_0 hG), ck_t (rS_1 hG), bnd_t, ha.1.2.2.2.2.2.1, rf_t (rP_8_0 hG), ck_t (rS_1 hG), ck_t (TS hb.1.1.1)]
  refine Out.bind (jo_uname ha.1 hb.1 (by omega)) ?_ ?_
  rotate_left
  · intro y B' k p0 hz
    refine ⟨y, B', ?_, hz, same.rf⟩
    rw [bnd_t, if_neg hz.n0]
    unfold B_MText_told_26
    rw [ck_t (TS hz.1), bnd_t, if_neg hz.nle]
  intro j v A1 y B1 hij hxa hsb hQ
  obtain ⟨rfl, q2, hn, rfl, hBe, hl1, hr1, hx1, s, rfl, s1, s2, s3⟩ := hQ
  have hA1 := ha.sl hx1 hC hl1
  have hB1 : (UB w T L g E Nm Pv (i + 1) B1) := by rw [hBe]; exact hb.nx hn
  rw [← hBe]
  have hG1 := hl1.1.1
  have hP1 := hA1.pP hC
  rw [on_t, rf_t hA1.2.2.2.2, ck_t (PrS hP1), bC_t (ev_find (f := Nm 1) hP1 hA1.2.2.1 (by omega) s1 (fun k hk => (hA1.2.1.1 k hk).1) (by omega)), bnd_t, hB1.1.2.2.2.1, if_pos rfl, bC_t (ev_index (f := Nm 1) hB1.1.1.1 hB1.2.1.1.1 (by omega) (hB1.1.tn hi) (fun k hk => (hB1.2.1.1.2 k hk).1) hN)]
  cases hk : fnm (Nm 1) (nmT g L i) (E 0 0) 0 with
  | some k =>
    have hkb := fnm_bd _ _ _ hk
    have z3 : Zf (failB B1 w 3 (tkp L i)) w 3 (tkp L i) := hB1.1.fail (by decide) (by decide)
    have e9 : ∀ (X : Option (Ot (Option Nat) × Hp)) (Y : Nat → Option (Ot (Option Nat) × Hp)), nl (Option.map (p + 2 + ·) (some k)) X Y = Y (p + 2 + k) := fun X Y => rfl
    rw [e9, rf_t (rP_8_0 hG1), ck_t (rS_1 hG1), ev_refuse hG1, bT_z, show oNI (some k) = nI k from rfl, if_neg (nI_pos (by omega)), bC_t (show F_MText_fails N w (3 : Int32) (nI i) _ = _ from ev_fails (k := 3) hB1.1 hi)]
    unfold B_MText_told_26
    rw [ck_t (TS z3.1), bnd_t, if_neg z3.nle]
    exact Out.noD (k := 3) hB1.1 (by decide) (by decide) hn z3 SRd_fail
  | none =>
    have e9 : ∀ (X : Option (Ot (Option Nat) × Hp)) (Y : Nat → Option (Ot (Option Nat) × Hp)), nl (Option.map (p + 2 + ·) none) X Y = X := fun X Y => rfl
    have ePt : F_Program_tell N p s (nI so) (nI n) (0 : Int32) A1 = some ((), (ntA A1 (p + 2 + E 0 0) s (nI so) (nI n) 0).sD p 1 (nI (E 0 0 + 1))) := by
      unfold F_Program_tell
      rw [ck_t (PrS hP1), bnd_t, hA1.2.2.1, if_neg (show ¬ (68 : Int32) ≤ nI (E 0 0) from nI_ge (b := 68) (by omega) (by decide)), rf_t (PrP_0 hP1), bnd_t, ar_t (PrA_0 hP1), rdP (show E 0 0 < 68 by omega) (by decide), rf_t (PrK hP1 (E 0 0) (by omega)).1, ck_t (PrK hP1 (E 0 0) (by omega)).2, bC_t (ev_ntell (PrK hP1 (E 0 0) (by omega)).2), bnd_t, ntA_Do (show p ≠ p + 2 + E 0 0 by omega), hA1.2.2.1, nI_1, bnd_t]
    rw [e9, show oNI none = -1 from rfl, if_pos (by decide)]
    unfold B_Reader_declare_38 B_MText_told_26
    rw [ck_t (rS_8 hG1), rf_t hA1.2.2.2.2, ck_t (PrS hP1), bC_t ePt, ck_t (TS hB1.1.1.1), bnd_t, hB1.1.2.2.2.1, if_pos (by decide), rf_t (TP_13 hB1.1.1.1), bnd_t, hB1.2.1.1.1, ar_t (TA_13 hB1.1.1.1), wrI (show E 0 0 < 56 by omega) (by decide), sD_P, rf_t (TP_14 hB1.1.1.1), bnd_t, rdw (show w ≠ w + 8 by omega), hB1.2.1.1.1, ar_sD, ar_t (TA_14 hB1.1.1.1), wrI (show E 0 0 < 56 by omega) (by decide), sD_P, sD_P, rf_t (TP_15 hB1.1.1.1), bnd_t, rdw (show w ≠ w + 9 by omega), rdw (show w ≠ w + 8 by omega), hB1.2.1.1.1, ar_sD, ar_sD, ar_t (TA_15 hB1.1.1.1), wrI (show E 0 0 < 56 by omega) (by decide), bnd_t, rdw (show w ≠ w + 10 by omega), rdw (show w ≠ w + 9 by omega), rdw (show w ≠ w + 8 by omega), hB1.2.1.1.1, nI_1, bnd_t]
    refine Or.inr ⟨_, _, _, _, i + 1, rfl, rfl, Nat.le_refl _, hn, ?_, ?_, rfl, q2, hn, rfl, rfl, A1, s, rfl, hx1, hA1, s1, s2, s3, rfl, rfl⟩
    · rw [Nat.sub_self]
      refine exA.sD (ntA_ex (fun f => decide_eq_true ?_)) (decide_eq_true ?_) <;> omega
    · exact (((same.rf.sD (by unfold SRd; omega)).sD (by unfold SRd; omega)).sD (by unfold SRd; omega)).sD (by unfold SRd; omega)
end Par
