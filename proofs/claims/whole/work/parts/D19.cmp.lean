/-! ===== each level begins; comparisons; all depths ===== -/
section Par
variable {N p w T : Nat} {L : List (Nat × Nat × Int32 × Bool × Nat)} {g : Nat → Nat} {E : Nat → Nat → Nat} {Nm : Nat → Nat → List Nat} {Pv : Nat → Nat → Int32} {nL lc dp : Nat} {ln : Nat → List Nat} {lk lf : Nat → Nat} {hd : Nat → Int32}
theorem jo_start {l : Nat} {o : Orc_BodyE} {RL : Nat → Int32 → Hp → Option (Int32 × Hp)} {RN : Hp → Option (Int32 × Hp)} {RK : Nat → Nat → Nat → Int32 → Hp → Option (Int32 × Hp)} (hN : 6010 ≤ N) (hC : (CX p E Nm nL lc dp ln lk lf hd))
    (hl : l = 0 ∨ l = 1 ∨ l = 3 ∨ l = 4)
    (h0 : ∀ i B n k, LB B w L T g i → lvN (tkk L i) ≠ l → RL (n + 1) (nI k) B = some (nI k, B))
    (h1 : ∀ i B n k, LB B w L T g i → lvN (tkk L i) = l → RL (n + 1) (nI k) B = bC (RN (B.sD w 11 (nI (i + 1)))) (RK n i k))
    (h2 : ∀ n i k k2 j H, LB H w L T g j → i < L.length → lvN (tkk L i) = l → k < 5 → RK n i k (nI k2) H = bC (F_MText_goTogether N w (nI i) (nI k) (nI k2) (bI (mayN (tkk L i) k)) H) (fun v H2 => RL n v H2))
    (h3 : ∀ n i k y H kf p0, Zf H w kf p0 → i < 6002 → ∃ y2 H2, RK (n + 1) i k y H = some (y2, H2) ∧ Zf H2 w kf p0 ∧ same (SRo w) H H2)
    (h4 : ∀ n v H kf p0, Zf H w kf p0 → RL (n + 1) v H = some (v, H))
    (ih : ∀ i cs A B, (JA p T L g E Nm Pv nL lc dp ln lk lf hd i cs A) → (JB w T L g E Nm Pv nL lc dp ln lk lf hd i B) → cs + 8 ≤ 2 * tkp L i → (Out (SBo p (E 0 0)) (SRo w) w L i A B ((if l = 4 then o.2 9 A else o.1 9 (nI (l + 1)) A)) (RN B) ((PE p w T L g E Nm Pv nL lc dp ln lk lf hd (l + 1) i cs A B))))
    {i cs : Nat} {A B : Hp} (ha : (JA p T L g E Nm Pv nL lc dp ln lk lf hd i cs A)) (hb : (JB w T L g E Nm Pv nL lc dp ln lk lf hd i B)) (hcs : cs + 8 ≤ 2 * tkp L i) : (Out (SBo p (E 0 0)) (SRo w) w L i A B (F_Body_signsFrom N o 9 (nI l) A) (bC (RN B) (fun v H => RL N v H)) ((PE p w T L g E Nm Pv nL lc dp ln lk lf hd l i cs A B))) := by
  have hG := ha.1.1.1
  have e : F_Body_signsFrom N o 9 (nI l) A = bT (if l = 4 then o.2 9 A else o.1 9 (nI (l + 1)) A) fun v H => B_Body_signsFrom_22 N o 9 (nI l) N v (nI 0) H := by
    unfold F_Body_signsFrom
    by_cases z : l = 4
    · rw [if_pos (show (4 : Int32) ≤ nI l by rw [z]; decide), ck_t (rS_9 hG), if_pos z]; rfl
    · rw [if_neg (show ¬ (4 : Int32) ≤ nI l from nI_ge (b := 4) (by omega) (by decide)), ck_t (rS_9 hG), if_neg z, nI_1]; rfl
  rw [e]
  refine Out.bind (ih i cs A B ha hb hcs) ?_ ?_
  · intro j v A2 y B2 hij hxa hsb hQ
    obtain ⟨k2, cs2, rfl, rfl, hkk2, hA2, hB2, hlt, hd1, hd2, hcf2, hmf2, hde2⟩ := hQ
    have h61 : L.length ≤ 6001 := by have := hb.1.2.2.2.2.2.2.1; have := hb.1.2.2.2.2.2.2.2.1; omega
    exact jo_loop hC hl h0 h1 h2 h3 h4 ih (L.length - j) j cs2 k2 A2 B2 N N 0 (Nat.le_refl _) (by omega) (by omega) (Nat.zero_le _) hA2 hB2 (by omega) hkk2 hlt hd1 hd2 hcf2 hmf2 (fun cd mn nu hag => DE.ch hl (hde2 cd mn nu hag))
  · intro y B' kf p0 hz
    obtain ⟨n, rfl⟩ : ∃ n, N = n + 1 := ⟨N - 1, by omega⟩
    exact ⟨y, B', h4 n y B' kf p0 hz, hz, same.rf⟩
/-! comparisons -/
theorem ev_isLess {B : Hp} {i : Nat} (hb : LB B w L T g i) : F_MText_isLess N w B = some (bI (decide (tkk L i = 23 ∨ tkk L i = 24 ∨ tkk L i = 26 ∨ tkk L i = 27)), B) := by
  unfold F_MText_isLess B_MText_isLess_35
  rw [ck_t (TS hb.1.1), bC_t (show F_MText_is N w (60 : Int32) B = _ from ev_is (k := 23) hb (by decide))]
  by_cases q : tkk L i = 23
  · rw [decide_eq_true q, if_neg bI_t0, decide_eq_true (Or.inl q)]; rfl
  · rw [decide_eq_false q, if_pos bI_f, bC_t (show F_MText_is N w (62 : Int32) B = _ from ev_is (k := 24) hb (by decide))]
    by_cases q2 : tkk L i = 24
    · rw [decide_eq_true q2, if_neg bI_t0, decide_eq_true (Or.inr (Or.inl q2))]; rfl
    · rw [decide_eq_false q2, if_pos bI_f, bC_t (show F_MText_is N w (5 : Int32) B = _ from ev_is (k := 26) hb (by decide))]
      by_cases q3 : tkk L i = 26
      · rw [decide_eq_true q3, if_neg bI_t0, decide_eq_true (Or.inr (Or.inr (Or.inl q3)))]; rfl
      · rw [decide_eq_false q3, if_pos bI_f, bC_t (show F_MText_is N w (6 : Int32) B = _ from ev_is (k := 27) hb (by decide))]
        by_cases q4 : tkk L i = 27
        · rw [decide_eq_true q4, if_neg bI_t0, decide_eq_true (Or.inr (Or.inr (Or.inr q4)))]; rfl
        · rw [decide_eq_false q4, if_pos bI_f, decide_eq_false (by omega)]; rfl
def cmK (N : Nat) (o : Orc_TextE) (p0 : Nat) (v3 : Int32) (H4 : Hp) : Option (Int32 × Hp) :=
    bC (F_MText_isLess N p0 H4) fun v6 H7 =>
    if v6 = (0 : Int32) then
    bC (F_MText_is N p0 (7 : Int32) H7) fun v42 H43 =>
    if v42 = (0 : Int32) then
    bC (F_MText_is N p0 (8 : Int32) H43) fun v46 H47 =>
    if v46 = (0 : Int32) then
    some (v3, H47)
    else
    B_MText_compared_34 N o p0 v3 v6 H47
    else
    B_MText_compared_34 N o p0 v3 v6 H43
    else
    B_MText_compared_34 N o p0 v3 v6 H7
def cmR (N : Nat) (o : Orc_TextE) (w i : Nat) (l1 l2 : Int32) (v14 : Int32) (H15 : Hp) : Option (Int32 × Hp) :=
    if l2 = (0 : Int32) then
    B_MText_compared_67 N o w w (nI i) l1 v14 H15
    else
    bC (F_MText_reckons N l1 H15) fun v26 H27 =>
    if v26 = (0 : Int32) then
    B_MText_compared_72 N o w w (nI i) l1 v14 0 H27
    else
    B_MText_compared_67 N o w w (nI i) l1 v14 H27
theorem cm_fz {B : Hp} {i kf p0 : Nat} {l1 l2 y : Int32} {o' : Orc_TextE} (h : Zf B w kf p0) (hi : i < 6002) : ∃ y2 H2, cmR N o' w i l1 l2 y B = some (y2, H2) ∧ Zf H2 w kf p0 ∧ same (SRo w) B H2 := by
  refine ⟨3, B.sD (w + 7) i l1, ?_, h.sD (by omega), same.rf.sD (by unfold SRo; omega)⟩
  obtain ⟨b, hb⟩ := reck_x (N := N) (B := B) (v := l1)
  unfold cmR B_MText_compared_67 B_MText_compared_72
  rw [bC_t hb, ck_t (TS h.1), ck_t (TS h.1), bC_t (fz_go h hi), bC_t (fz_go h hi), ite_self, ite_self]
theorem cm_0 {B : Hp} {i : Nat} {v : Int32} {o' : Orc_TextE} (hb : LB B w L T g i) (h : lvN (tkk L i) ≠ 2) : cmK N o' w v B = some (v, B) := by
  have h' : ¬ (tkk L i = 23 ∨ tkk L i = 24 ∨ tkk L i = 26 ∨ tkk L i = 27 ∨ tkk L i = 28 ∨ tkk L i = 29) := fun z => h (lv_is2.mpr z)
  unfold cmK
  rw [bC_t (ev_isLess hb), decide_eq_false (by omega), if_pos bI_f, bC_t (show F_MText_is N w (7 : Int32) B = _ from ev_is (k := 28) hb (by decide)), decide_eq_false (by omega), if_pos bI_f, bC_t (show F_MText_is N w (8 : Int32) B = _ from ev_is (k := 29) hb (by decide)), decide_eq_false (by omega), if_pos bI_f]
theorem cm_1 {B : Hp} {i : Nat} {v : Int32} {o' : Orc_TextE} (hb : LB B w L T g i) (h : lvN (tkk L i) = 2) : cmK N o' w v B = bC (F_MText_sum N o' w (B.sD w 11 (nI (i + 1)))) (cmR N o' w i v (bI (decide (tkk L i = 23 ∨ tkk L i = 24 ∨ tkk L i = 26 ∨ tkk L i = 27)))) := by
  have h' := lv_is2.mp h
  have e : ∀ l2, B_MText_compared_34 N o' w v l2 B = bC (F_MText_sum N o' w (B.sD w 11 (nI (i + 1)))) (cmR N o' w i v l2) := by
    intro l2
    unfold B_MText_compared_34
    rw [ck_t (TS hb.1.1), bnd_t, bnd_t, hb.2.2.1, nI_1, bnd_t]
    rfl
  unfold cmK
  rw [bC_t (ev_isLess hb)]
  by_cases q : tkk L i = 23 ∨ tkk L i = 24 ∨ tkk L i = 26 ∨ tkk L i = 27
  · rw [decide_eq_true q, if_neg bI_t0, e]
  · rw [decide_eq_false q, if_pos bI_f, bC_t (show F_MText_is N w (7 : Int32) B = _ from ev_is (k := 28) hb (by decide))]
    by_cases q2 : tkk L i = 28
    · rw [decide_eq_true q2, if_neg bI_t0, e]
    · rw [decide_eq_false q2, if_pos bI_f, bC_t (show F_MText_is N w (8 : Int32) B = _ from ev_is (k := 29) hb (by decide)), decide_eq_true (by omega), if_neg bI_t0, e]
theorem cm_2 {B : Hp} {i j k k2 : Nat} {o' : Orc_TextE} (hb : LB B w L T g j) (h : lvN (tkk L i) = 2) (hk : k < 5) : cmR N o' w i (nI k) (bI (decide (tkk L i = 23 ∨ tkk L i = 24 ∨ tkk L i = 26 ∨ tkk L i = 27))) (nI k2) B = bC (F_MText_goTogether N w (nI i) (nI k) (nI k2) (bI (mayN (tkk L i) k)) B) (fun v H2 => some (3, H2)) := by
  have h' := lv_is2.mp h
  have e72 : ∀ b : Int32, B_MText_compared_72 N o' w w (nI i) (nI k) (nI k2) b B = bC (F_MText_goTogether N w (nI i) (nI k) (nI k2) b B) (fun v H2 => some (3, H2)) := by
    intro b
    unfold B_MText_compared_72
    rw [ck_t (TS hb.1.1)]
  unfold cmR B_MText_compared_67
  by_cases q : tkk L i = 23 ∨ tkk L i = 24 ∨ tkk L i = 26 ∨ tkk L i = 27
  · have hm : mayN (tkk L i) k = decide (k = 0 ∨ k = 2) := by
      unfold mayN
      rw [if_neg (show ¬ (tkk L i = 30 ∨ tkk L i = 31) by omega), if_neg (show ¬ tkk L i = 22 by omega), if_neg (show ¬ (tkk L i = 28 ∨ tkk L i = 29) by omega)]
    rw [decide_eq_true q, if_neg bI_t0, bC_t (ev_reck (by omega)), hm]
    by_cases q2 : k = 0 ∨ k = 2
    · rw [decide_eq_true q2, if_neg bI_t0, e72]; rfl
    · rw [decide_eq_false q2, if_pos bI_f, e72]; rfl
  · have hm : mayN (tkk L i) k = true := by
      unfold mayN
      rw [if_neg (show ¬ (tkk L i = 30 ∨ tkk L i = 31) by omega), if_neg (show ¬ tkk L i = 22 by omega), if_pos (show tkk L i = 28 ∨ tkk L i = 29 by omega)]
    rw [decide_eq_false q, if_pos bI_f, e72, hm]; rfl
theorem jo_cmp {o : Orc_BodyE} {o' : Orc_TextE} (hN : 6010 ≤ N) (hC : (CX p E Nm nL lc dp ln lk lf hd))
    (ih : ∀ i cs A B, (JA p T L g E Nm Pv nL lc dp ln lk lf hd i cs A) → (JB w T L g E Nm Pv nL lc dp ln lk lf hd i B) → cs + 8 ≤ 2 * tkp L i → (Out (SBo p (E 0 0)) (SRo w) w L i A B (o.1 9 (nI 3) A) (F_MText_sum N o' w B) ((PE p w T L g E Nm Pv nL lc dp ln lk lf hd 3 i cs A B))))
    {i0 cs0 : Nat} {A0 B0 : Hp} (ha0 : (JA p T L g E Nm Pv nL lc dp ln lk lf hd i0 cs0 A0)) (hb0 : (JB w T L g E Nm Pv nL lc dp ln lk lf hd i0 B0)) (hcs0 : cs0 + 8 ≤ 2 * tkp L i0) : (Out (SBo p (E 0 0)) (SRo w) w L i0 A0 B0 (F_Body_signsFrom N o 9 (nI 2) A0) (F_MText_compared N o' w B0) ((PE p w T L g E Nm Pv nL lc dp ln lk lf hd 2 i0 cs0 A0 B0))) := by
  have hG0 := ha0.1.1.1
  have hp := hC.2.1
  have e : F_Body_signsFrom N o 9 (nI 2) A0 = bT (o.1 9 (nI 3) A0) fun v H => B_Body_signsFrom_22 N o 9 (nI 2) N v (nI 0) H := by
    unfold F_Body_signsFrom
    rw [if_neg (show ¬ (4 : Int32) ≤ nI 2 by decide), ck_t (rS_9 hG0)]; rfl
  have e2 : F_MText_compared N o' w B0 = bC (F_MText_sum N o' w B0) (cmK N o' w) := by
    unfold F_MText_compared
    rw [ck_t (TS hb0.1.1.1)]; rfl
  have h61 : L.length ≤ 6001 := by have := hb0.1.2.2.2.2.2.2.1; have := hb0.1.2.2.2.2.2.2.2.1; omega
  rw [e, e2]
  obtain ⟨n, rfl⟩ : ∃ z, N = z + 1 := ⟨N - 1, by omega⟩
  refine Out.bind (ih i0 cs0 A0 B0 ha0 hb0 hcs0) ?_ ?_
  rotate_left
  · intro y B' kf p0 hz
    refine ⟨y, B', ?_, hz, same.rf⟩
    unfold cmK F_MText_isLess
    rw [ck_t (TS hz.1), bC_t (fz_is hz), if_pos rfl, bC_t (fz_is hz), if_pos rfl, bC_t (fz_is hz), if_pos rfl, bC_t (fz_is hz), if_pos rfl, bC_v, if_pos rfl, bC_t (fz_is hz), if_pos rfl, bC_t (fz_is hz), if_pos rfl]
  intro i v A y B hij hxa hsb hQ
  obtain ⟨k, cs, rfl, rfl, hk, ha, hb, hi0, hc0, hc1, hcf, hmf, hde⟩ := hQ
  have hG := ha.1.1.1
  have hi := ha.1.2.2.2.2.2.2.1
  have hP := ha.pP hC
  have h81 := (ha.1.2.2.2.2.2.2.2.2.2.2.2.1 i hi).2.1
  have elv : (lvI (tkk L i) = nI 2) = (lvN (tkk L i) = 2) := lvI_eq0 ⟨tkk L i, by omega⟩ ⟨2, by omega⟩
  rw [B_Body_signsFrom_22, if_neg (show ¬ (6000 : Int32) < nI 0 by decide), ck_t (rS_9 hG), rf_t (rP_9_0 hG), ck_t (rS_1 hG), bnd_t, ha.1.2.2.2.2.1, bC_t (ev_level (by omega))]
  by_cases q : lvN (tkk L i) = 2
  · rw [if_pos (by rw [elv]; exact q), cm_1 hb.1 q]
    have hsgs := lv_sg (sg := tkk L i) (by omega)
    have hk2 : 2 ≤ tkk L i := by omega
    have hnx := hb.1.gt hk2
    obtain ⟨q1, q2, q3⟩ := pos_lt hb.1 hk2
    have hA1 := ha.adv hC hnx
    have hB1 := hb.nx hnx
    have hG1 := hA1.1.1.1
    rw [rf_t (rP_9_0 hG), ck_t (rS_1 hG), bnd_t, ha.1.2.2.2.2.1, rf_t (rP_9_0 hG), ck_t (rS_1 hG), bnd_t, ha.1.2.2.2.2.2.1, rf_t (rP_9_0 hG), ck_t (rS_1 hG), bC_t (ev_advance ha.1 hnx), if_neg (show ¬ nI 2 ≤ (1 : Int32) by decide)]
    have e90 : B_Body_signsFrom_90 (n + 1) o 9 (nI 2) (fun l2 l3 H => B_Body_signsFrom_22 (n + 1) o 9 (nI 2) n l2 l3 H) (nI k) (nI 0) (nI (tkk L i)) (nI (tkp L i)) (-1) (advA A L i) = bT (o.1 9 (nI 3) (advA A L i)) fun v40 H41 => B_Body_signsFrom_111 (n + 1) o 9 (nI 2) (fun l2 l3 H => B_Body_signsFrom_22 (n + 1) o 9 (nI 2) n l2 l3 H) (nI k) (nI 0) (nI (tkk L i)) (nI (tkp L i)) (-1) v40 H41 := by
      unfold B_Body_signsFrom_90
      rw [if_neg (show ¬ (4 : Int32) ≤ nI 2 by decide), ck_t (rS_9 hG1)]; rfl
    rw [e90]
    refine Out.pre (Out.bind (ih (i + 1) cs _ _ hA1 hB1 (by omega)) ?_ ?_) (adv_ex.mono SL_SBo (Nat.le_refl _)) (same.rf.sD (by unfold SRo; omega)) (show i ≤ i + 1 by omega) hnx (by omega)
    rotate_left
    · intro y B' kf p0 hz
      exact cm_fz hz (by omega)
    intro j v A2 y B2 hij hxa hsb hQ
    obtain ⟨k2, cs2, rfl, rfl, hkk2, hA2, hB2, hlt, hd1, hd2, hcf2, hmf2, hde2⟩ := hQ
    have hG2 := hA2.1.1.1
    have hi2 := hA2.1.2.2.2.2.2.2.1
    have hpj := pos_j hB2.1
    have hP2 := hA2.pP hC
    unfold B_Body_signsFrom_111
    rw [ck_t (rS_9 hG2), ev_joined hA2 hC (by omega) hk hkk2 (by omega), cm_2 hB2.1 q (by omega), ev_go hB2.1 hi (by omega) (by omega)]
    by_cases fit : fitN (tkk L i) k k2 = true
    · have fit' : (mayN (tkk L i) k && decide (k = k2)) = true := fit
      have hkeq : k = k2 := of_decide_eq_true (Bool.and_eq_true_iff.mp fit').2
      have hmay : mayN (tkk L i) k = true := (Bool.and_eq_true_iff.mp fit').1
      subst hkeq
      have hA3 := hA2.add (v := nI (opN (tkk L i) k)) hC
      have hB3 : (JB w T L g E Nm Pv nL lc dp ln lk lf hd j (B2.sD (w + 7) i (nI k))) := hB2.sD rfl
      rw [if_pos fit, if_pos fit', bC_v, if_neg (show ¬ lvN (tkk L i) ≤ 1 by omega), bT_v, if_pos q, rf_t hA3.2.2.1, ck_t (PrS (hA3.pP hC)), bC_t ev_aim_no, if_pos (show nI 2 = (2 : Int32) from rfl)]
      refine Or.inr ⟨_, _, _, _, j, rfl, rfl, Nat.le_refl _, hi2, add_ex.mono (fun _ _ h => h) (by omega), same.rf.sD (by unfold SRo; omega), 3, cs2 + 1, rfl, rfl, by omega, hA3, hB3, by omega, by omega, by omega, ?_, ?_, ?_⟩
      · exact (hcf.tr (fun x hx => by rw [code_adv hp]) hc0).tr (hcf2.tr (cfr_add (Nat.le_refl _)) (by omega)) (by omega)
      · exact fun t ht => ⟨by rw [rdf (by omega), (hmf2 t (by omega)).1, rdw (by omega)]; exact (hmf t ht).1, by rw [rdw (by omega), (hmf2 t (by omega)).2, rdw (by omega)]; exact (hmf t ht).2⟩
      · intro cd mn nu hag
        have ca : ∀ x, x < cs2 → (addA A2 p cs2 (nI (opN (tkk L i) k))).D (p + 191) x = A2.D (p + 191) x := fun x hx => by rw [code_add, if_neg (by omega)]
        have c0 := hag.1 cs2 (by omega) (by omega)
        rw [code_add, if_pos rfl] at c0
        have d1 := hde cd mn nu ⟨fun x a b => (hag.1 x a (by omega)).trans ((ca x (by omega)).trans ((hcf2 x (by omega)).trans (by rw [code_adv hp]))), fun t a b => by
          obtain ⟨e1, e2⟩ := hag.2 t a (by omega)
          obtain ⟨f1, f2⟩ := hmf2 t (by omega)
          rw [rdf (by omega), f1, rdw (by omega)] at e1
          rw [rdw (by omega), f2, rdw (by omega)] at e2
          exact ⟨e1, e2⟩⟩
        have d2 := hde2 cd mn nu ⟨fun x a b => (hag.1 x (by omega) (by omega)).trans (ca x b), fun t a b => by
          obtain ⟨e1, e2⟩ := hag.2 t (by omega) b
          rw [rdf (by omega)] at e1
          rw [rdw (by omega)] at e2
          exact ⟨e1, e2⟩⟩
        have hT := cmT_ok0 ⟨tkk L i, by omega⟩ ⟨k, by omega⟩ q hmay
        exact DE.cmp d1 (show tyF L i = nI (tyK (tkk L i)) from rfl) hT d2 c0
    · have fit' : ¬ (mayN (tkk L i) k && decide (k = k2)) = true := fit
      rw [if_neg fit, if_neg fit', bT_z, bC_v]
      have z5 : Zf (failB B2 w 5 (tkp L i)) w 5 (tkp L i) := hB2.1.fail (by decide) (by decide)
      have z6 := z5.sD (a := w + 7) (f := i) (v := nI k) (by omega)
      exact Out.no (k := 5) hB2.1 (by decide) (by decide) hi2 z6 (SRo_fail.tr (same.rf.sD (by unfold SRo; omega)))
  · rw [if_neg (by rw [elv]; exact q), cm_0 hb.1 q]
    refine Or.inr ⟨_, _, _, _, i, rfl, rfl, Nat.le_refl _, hi, exA.rf.mono (fun _ _ h => h) (by omega), same.rf, k, cs, rfl, rfl, hk, ha, hb, hi0, hc0, hc1, hcf, hmf, fun cd mn nu hag => ?_⟩
    refine DE.cm0 (hde cd mn nu hag) ?_
    have := noS_ok0 ⟨tkk L i, by omega⟩ ⟨2, by omega⟩ (decide_eq_true h81) q
    exact this
end Par
