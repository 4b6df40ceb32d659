/-! ===== rows of signs of one level ===== -/
theorem lv_le1 {sg : Nat} (h : lvN sg ≤ 1) : sg = 30 ∨ sg = 31 := by
  unfold lvN at h
  (repeat' split at h) <;> omega
section Par
variable {N p w T : Nat} {L : List (Nat × Nat × Int32 × Bool × Nat)} {g : Nat → Nat} {E : Nat → Nat → Nat} {Nm : Nat → Nat → List Nat} {Pv : Nat → Nat → Int32} {nL lc dp : Nat} {ln : Nat → List Nat} {lk lf : Nat → Nat} {hd : Nat → Int32}
theorem JA.code {A : Hp} {i cs x : Nat} {v : Int32} (h : (JA p T L g E Nm Pv nL lc dp ln lk lf hd i cs A)) (hC : (CX p E Nm nL lc dp ln lk lf hd)) : (JA p T L g E Nm Pv nL lc dp ln lk lf hd i cs (A.sD (p + 191) x v)) := by
  have hle := h.1.1.1.len
  obtain ⟨hl, he, b1, b2, b3, b4, b5, b6, b7, b8, b9⟩ := h
  obtain ⟨hE, hp, c3, c4, c5, c6, c7, c8, c9⟩ := hC
  have h56 : E 0 0 ≤ 56 := hE.2.2.2.2.2.2.2.2.2.2.2.2.2.1
  have hx : exA (SBo p (E 0 0)) 0 A (A.sD (p + 191) x v) := exA.rf.sD (decide_eq_true (by omega))
  refine ⟨?_, he.ex hx hE hp hle, b1, ?_, ?_, ?_, ?_, ?_, ?_, fun k hk => ?_, fun l hl => ?_⟩
  · refine hl.ex (exA.rf.sD (S := fun a f => decide (a = p + 191)) (decide_eq_true (by omega))) ?_ (decide_eq_false (by omega)) (decide_eq_false (by omega)) (decide_eq_false (by omega)) (decide_eq_false (by omega))
    refine ⟨?_, fun f => decide_eq_false (by omega), fun f => decide_eq_false (by omega), fun f => decide_eq_false (by omega), fun f => decide_eq_false (by omega), fun f => decide_eq_false (by omega), decide_eq_false (by omega), decide_eq_false (by omega)⟩
    rcases hp with rfl | rfl
    · decide +kernel
    · decide +kernel
  · rw [rdw (by omega)]; exact b2
  · rw [rdw (by omega)]; exact b3
  · rw [rdw (by omega)]; exact b4
  · rw [rdw (by omega)]; exact b5
  · rw [rdw (by omega)]; exact b6
  · rw [rdw (by omega)]; exact b7
  · obtain ⟨a1, a2, a3, a4⟩ := b8 k hk
    refine ⟨?_, ?_, ?_, ?_⟩
    · obtain ⟨s, s1, s2, s3, s4⟩ := a1
      obtain ⟨t1, t2⟩ := hx.str (SBo_lt (by omega)) s2 s3 s4
      exact ⟨s, s1, t1, s3, t2⟩
    · rw [rdw (by omega)]; exact a2
    · rw [rdw (by omega)]; exact a3
    · rw [rdw (by omega)]; exact a4
  · rw [rdw (by omega)]; exact b9 l hl
theorem ev_aim {A : Hp} {i cs x : Nat} (ha : (JA p T L g E Nm Pv nL lc dp ln lk lf hd i cs A)) (hC : (CX p E Nm nL lc dp ln lk lf hd)) (hx : x < cs) (hcs : cs ≤ 12000) : F_Program_aim N p (nI x) A = some ((), A.sD (p + 191) x (nI cs)) := by
  have hP := ha.pP hC
  have h7 : A.D p 17 = nI cs := ha.2.2.2.2.2.2.2.2.1
  unfold F_Program_aim
  rw [if_neg (nI_pos (by omega)), ck_t (PrS hP), bnd_t, h7, if_neg (nI_ge hx (by omega)), rf_t (PrP_16 hP), bnd_t, ar_t (PrA_16 hP), wrI (by omega) (by decide)]
theorem ev_aim_no {A : Hp} : F_Program_aim N p (-1) A = some ((), A) := by
  unfold F_Program_aim
  rw [if_pos (by decide)]
theorem ev_jump {A : Hp} {i cs : Nat} {v : Int32} (ha : (JA p T L g E Nm Pv nL lc dp ln lk lf hd i cs A)) (hC : (CX p E Nm nL lc dp ln lk lf hd)) (hc : cs + 1 < 12000) : F_Body_jump N 9 v A = some (nI (cs + 1), addA (addA A p cs v) p (cs + 1) 0) := by
  have hG := ha.1.1.1
  have h2 := ha.add (v := v) hC
  unfold F_Body_jump
  rw [ck_t (rS_9 hG), rf_t ha.2.2.1, ck_t (PrS (ha.pP hC)), bC_t (ev_add ha (ha.pP hC) (by omega)), rf_t h2.2.2.1, ck_t (PrS (h2.pP hC)), bC_t (ev_add h2 (h2.pP hC) hc)]
theorem ev_go {B : Hp} {i j k k2 : Nat} {b : Bool} (hb : LB B w L T g j) (hi : i < L.length) (hk : k < 100) (hk2 : k2 < 100) : F_MText_goTogether N w (nI i) (nI k) (nI k2) (bI b) B = if (b && decide (k = k2)) = true then some (nI k, B.sD (w + 7) i (nI k)) else some (nI k, (failB B w 5 (tkp L i)).sD (w + 7) i (nI k)) := by
  have h61 : L.length ≤ 6001 := by have := hb.2.2.2.2.2.2.1; have := hb.2.2.2.2.2.2.2.1; omega
  have z5 : Zf (failB B w 5 (tkp L i)) w 5 (tkp L i) := hb.fail (by decide) (by decide)
  have e23 : ∀ H : Hp, isT H w → B_MText_goTogether_23 N w (nI i) (nI k) (nI k2) (bI b) H = some (nI k, H.sD (w + 7) i (nI k)) := by
    intro H hH
    unfold B_MText_goTogether_23
    rw [ck_t (TS hH), rf_t (TP_8 hH), ar_t (TA_8 hH), wrI (by omega) (by decide)]
  unfold F_MText_goTogether B_MText_goTogether_17
  rw [ck_t (TS hb.1.1), bnd_t, hb.2.2.2.1, if_pos rfl, ck_t (TS hb.1.1), bC_t (show F_MText_fails N w (5 : Int32) (nI i) B = _ from ev_fails (k := 5) hb hi), e23 _ z5.1, e23 _ hb.1.1]
  cases b
  · rw [if_pos bI_f]; rfl
  · rw [if_neg bI_t0]
    by_cases q : k = k2
    · rw [if_pos (by rw [q]), Bool.true_and, if_pos (decide_eq_true q)]
    · rw [if_neg (fun z => q ((nI_eq (by omega) (by omega)).mp z)), Bool.true_and, if_neg (by rw [decide_eq_false q]; decide)]
theorem fz_go {B : Hp} {i k p0 : Nat} {a b c : Int32} (h : Zf B w k p0) (hi : i < 6002) : F_MText_goTogether N w (nI i) a b c B = some (a, B.sD (w + 7) i a) := by
  unfold F_MText_goTogether B_MText_goTogether_23
  rw [ck_t (TS h.1), bnd_t, if_neg h.n0, ck_t (TS h.1), rf_t (TP_8 h.1), ar_t (TA_8 h.1), wrI hi (by decide)]
theorem jo_loop {l i0 cs0 : Nat} {A0 B0 : Hp} {o : Orc_BodyE} {RL : Nat → Int32 → Hp → Option (Int32 × Hp)} {RN : Hp → Option (Int32 × Hp)} {RK : Nat → Nat → Nat → Int32 → Hp → Option (Int32 × Hp)} (hC : (CX p E Nm nL lc dp ln lk lf hd))
    (hl : l = 0 ∨ l = 1 ∨ l = 3 ∨ l = 4)
    (h0 : ∀ i B n k, LB B w L T g i → lvN (tkk L i) ≠ l → RL (n + 1) (nI k) B = some (nI k, B))
    (h1 : ∀ i B n k, LB B w L T g i → lvN (tkk L i) = l → RL (n + 1) (nI k) B = bC (RN (B.sD w 11 (nI (i + 1)))) (RK n i k))
    (h2 : ∀ n i k k2 j H, LB H w L T g j → i < L.length → lvN (tkk L i) = l → k < 5 → RK n i k (nI k2) H = bC (F_MText_goTogether N w (nI i) (nI k) (nI k2) (bI (mayN (tkk L i) k)) H) (fun v H2 => RL n v H2))
    (h3 : ∀ n i k y H kf p0, Zf H w kf p0 → i < 6002 → ∃ y2 H2, RK (n + 1) i k y H = some (y2, H2) ∧ Zf H2 w kf p0 ∧ same (SRo w) H H2)
    (h4 : ∀ n v H kf p0, Zf H w kf p0 → RL (n + 1) v H = some (v, H))
    (ih : ∀ i cs A B, (JA p T L g E Nm Pv nL lc dp ln lk lf hd i cs A) → (JB w T L g E Nm Pv nL lc dp ln lk lf hd i B) → cs + 8 ≤ 2 * tkp L i → (Out (SBo p (E 0 0)) (SRo w) w L i A B ((if l = 4 then o.2 9 A else o.1 9 (nI (l + 1)) A)) (RN B) ((PE p w T L g E Nm Pv nL lc dp ln lk lf hd (l + 1) i cs A B)))) :
    ∀ m i cs k A B n n' tn, L.length - i ≤ m → m < n → m < n' → tn ≤ i → (JA p T L g E Nm Pv nL lc dp ln lk lf hd i cs A) → (JB w T L g E Nm Pv nL lc dp ln lk lf hd i B) → cs + 8 ≤ 2 * tkp L i → (k = 0 ∨ k = 2 ∨ k = 3 ∨ k = 4) → i0 < i → cs0 ≤ cs → cs + 2 * tkp L i0 ≤ cs0 + 2 * tkp L i → cfr p cs0 A0 A → mfr w i0 B0 B →
      (∀ cd mn nu, Agr p w cs0 cs i0 i A B cd mn nu → DE (tyF L) mn nu cd E nL lc lk hd (10 + l) dp i0 i cs0 cs k) →
      (Out (SBo p (E 0 0)) (SRo w) w L i A B (B_Body_signsFrom_22 N o 9 (nI l) n (nI k) (nI tn) A) (RL n' (nI k) B) ((PE p w T L g E Nm Pv nL lc dp ln lk lf hd l i0 cs0 A0 B0))) := by
  intro m
  induction m with
  | zero => intro i cs k A B n n' tn hm _ _ _ ha; exact absurd ha.1.2.2.2.2.2.2.1 (by omega)
  | succ m ihm =>
    intro i cs k A B n n' tn hm hn hn' htn ha hb hcs hk hi0 hc0 hc1 hcf hmf hch
    have hG := ha.1.1.1
    have hi := ha.1.2.2.2.2.2.2.1
    have hp := hC.2.1
    have hP := ha.pP hC
    have h81 := (ha.1.2.2.2.2.2.2.2.2.2.2.2.1 i hi).2.1
    have h61 : L.length ≤ 6001 := by have := hb.1.2.2.2.2.2.2.1; have := hb.1.2.2.2.2.2.2.2.1; omega
    obtain ⟨n, rfl⟩ : ∃ z, n = z + 1 := ⟨n - 1, by omega⟩
    obtain ⟨n', rfl⟩ : ∃ z, n' = z + 1 := ⟨n' - 1, by omega⟩
    have elv : (lvI (tkk L i) = nI l) = (lvN (tkk L i) = l) := lvI_eq0 ⟨tkk L i, by omega⟩ ⟨l, by omega⟩
    rw [B_Body_signsFrom_22, if_neg (show ¬ (6000 : Int32) < nI tn from nI_nlt (a := 6000) (by omega) (by decide)), ck_t (rS_9 hG), rf_t (rP_9_0 hG), ck_t (rS_1 hG), bnd_t, ha.1.2.2.2.2.1, bC_t (ev_level (by omega))]
    by_cases q : lvN (tkk L i) = l
    · rw [if_pos (by rw [elv]; exact q), h1 i B n' k hb.1 q]
      obtain ⟨sg, hsg⟩ : ∃ sg, sg = tkk L i := ⟨_, rfl⟩
      have hsgs := lv_sg (sg := tkk L i) (by omega)
      have hk2 : 2 ≤ tkk L i := by omega
      have hnx := hb.1.gt hk2
      obtain ⟨q1, q2, q3⟩ := pos_lt hb.1 hk2
      have hA1 := ha.adv hC hnx
      have hB1 := hb.nx hnx
      rw [rf_t (rP_9_0 hG), ck_t (rS_1 hG), bnd_t, ha.1.2.2.2.2.1, rf_t (rP_9_0 hG), ck_t (rS_1 hG), bnd_t, ha.1.2.2.2.2.2.1, rf_t (rP_9_0 hG), ck_t (rS_1 hG), bC_t (ev_advance ha.1 hnx)]
      -- the operand behind the sign, and what joins both
      have rest : ∀ (past : Int32) (cs1 : Nat) (A1 : Hp), (JA p T L g E Nm Pv nL lc dp ln lk lf hd (i + 1) cs1 A1) → cs ≤ cs1 → cs1 ≤ cs + 2 → cfr p cs A A1 → exA (SBo p (E 0 0)) 0 A A1 → ((past = -1 ∧ (l = 3 ∨ l = 4) ∧ cs1 = cs) ∨ (past = nI (cs + 1) ∧ (l = 0 ∨ l = 1) ∧ cs1 = cs + 2 ∧ A1.D (p + 191) cs = (if l = 0 then 5 else 4))) →
          (Out (SBo p (E 0 0)) (SRo w) w L i A B (B_Body_signsFrom_90 N o 9 (nI l) (fun l2 l3 H => B_Body_signsFrom_22 N o 9 (nI l) n l2 l3 H) (nI k) (nI tn) (nI (tkk L i)) (nI (tkp L i)) past A1) (bC (RN (B.sD w 11 (nI (i + 1)))) (RK n' i k)) ((PE p w T L g E Nm Pv nL lc dp ln lk lf hd l i0 cs0 A0 B0))) := by
        intro past cs1 A1 hA1 hcs1 hcs2 hcfA hxA hpast
        have hG1 := hA1.1.1.1
        have e90 : B_Body_signsFrom_90 N o 9 (nI l) (fun l2 l3 H => B_Body_signsFrom_22 N o 9 (nI l) n l2 l3 H) (nI k) (nI tn) (nI (tkk L i)) (nI (tkp L i)) past A1 = bT (if l = 4 then o.2 9 A1 else o.1 9 (nI (l + 1)) A1) fun v40 H41 => B_Body_signsFrom_111 N o 9 (nI l) (fun l2 l3 H => B_Body_signsFrom_22 N o 9 (nI l) n l2 l3 H) (nI k) (nI tn) (nI (tkk L i)) (nI (tkp L i)) past v40 H41 := by
          unfold B_Body_signsFrom_90
          by_cases z : l = 4
          · rw [if_pos (show (4 : Int32) ≤ nI l by rw [z]; decide), ck_t (rS_9 hG1), if_pos z]
          · rw [if_neg (show ¬ (4 : Int32) ≤ nI l from nI_ge (b := 4) (by omega) (by decide)), ck_t (rS_9 hG1), if_neg z, nI_1]
        rw [e90]
        refine Out.pre (Out.bind (ih (i + 1) cs1 A1 _ hA1 hB1 (by omega)) ?_ ?_) hxA (same.rf.sD (by unfold SRo; omega)) (show i ≤ i + 1 by omega) hnx (by omega)
        rotate_left
        · intro y B' kf p0 hz
          obtain ⟨n', rfl⟩ : ∃ z, n' = z + 1 := ⟨n' - 1, by omega⟩
          exact h3 n' i k y B' kf p0 hz (by omega)
        intro j v A2 y B2 hij hxa hsb hQ
        obtain ⟨k2, cs2, rfl, rfl, hkk2, hA2, hB2, hlt, hd1, hd2, hcf2, hmf2, hde2⟩ := hQ
        have hG2 := hA2.1.1.1
        have hi2 := hA2.1.2.2.2.2.2.2.1
        have hpj := pos_j hB2.1
        have hP2 := hA2.pP hC
        unfold B_Body_signsFrom_111
        rw [ck_t (rS_9 hG2), ev_joined hA2 hC (by omega) hk hkk2 (by omega), h2 n' i k k2 j B2 hB2.1 hi q (by omega), ev_go hB2.1 hi (by omega) (by omega)]
        by_cases fit : fitN (tkk L i) k k2 = true
        · have fit' : (mayN (tkk L i) k && decide (k = k2)) = true := fit
          have hkeq : k = k2 := of_decide_eq_true (Bool.and_eq_true_iff.mp fit').2
          have hmay : mayN (tkk L i) k = true := (Bool.and_eq_true_iff.mp fit').1
          subst hkeq
          rw [if_pos fit, if_pos fit', bC_v]
          have hB3 : (JB w T L g E Nm Pv nL lc dp ln lk lf hd j (B2.sD (w + 7) i (nI k))) := hB2.sD rfl
          have mf3 : ∀ z, z ≤ i → mfr w z B2 (B2.sD (w + 7) i (nI k)) := fun z hz t ht => ⟨by rw [rdf (by omega)], by rw [rdw (by omega)]⟩
          have l2 : ¬ nI l = (2 : Int32) := fun z => by have := (nI_eq (b := 2) (by omega) (by decide)).mp z; omega
          rcases hpast with ⟨rfl, hl34, hce⟩ | ⟨rfl, hl01, hce, hcop⟩
          · subst hce
            rw [if_neg (show ¬ lvN (tkk L i) ≤ 1 by omega), bT_v, if_neg (show ¬ lvN (tkk L i) = 2 by omega)]
            have hA3 := hA2.add (v := nI (opN (tkk L i) k)) hC
            rw [rf_t hA3.2.2.1, ck_t (PrS (hA3.pP hC)), bC_t ev_aim_no, if_neg l2, nI_1]
            refine Out.pre (ihm j (cs2 + 1) k _ _ n n' (tn + 1) (by omega) (by omega) (by omega) (by omega) hA3 hB3 (by omega) hk (by omega) (by omega) (by omega) ?_ ?_ ?_) add_ex (same.rf.sD (by unfold SRo; omega)) (Nat.le_refl _) hi2 (by omega)
            · exact (hcf.tr hcfA hc0).tr (hcf2.tr (cfr_add (Nat.le_refl _)) (by omega)) (by omega)
            · exact fun t ht => ⟨by rw [rdf (by omega), (hmf2 t (by omega)).1, rdw (by omega)]; exact (hmf t ht).1, by rw [rdw (by omega), (hmf2 t (by omega)).2, rdw (by omega)]; exact (hmf t ht).2⟩
            · intro cd mn nu hag
              have ca : ∀ x, x < cs2 → (addA A2 p cs2 (nI (opN (tkk L i) k))).D (p + 191) x = A2.D (p + 191) x := fun x hx => by rw [code_add, if_neg (by omega)]
              have c0 := hag.1 cs2 (by omega) (by omega)
              rw [code_add, if_pos rfl] at c0
              have u0 := (hag.2 i (by omega) (by omega)).1
              rw [rds] at u0
              have d1 := hch cd mn nu ⟨fun x a b => (hag.1 x a (by omega)).trans ((ca x (by omega)).trans ((hcf2 x (by omega)).trans (hcfA x b))), fun t a b => by
                obtain ⟨e1, e2⟩ := hag.2 t a (by omega)
                obtain ⟨f1, f2⟩ := hmf2 t (by omega)
                rw [rdf (by omega), f1, rdw (by omega)] at e1
                rw [rdw (by omega), f2, rdw (by omega)] at e2
                exact ⟨e1, e2⟩⟩
              have d2 := hde2 cd mn nu ⟨fun x a b => (hag.1 x (by omega) (by omega)).trans (ca x b), fun t a b => by
                obtain ⟨e1, e2⟩ := hag.2 t (by omega) b
                rw [rdf (by omega)] at e1
                rw [rdw (by omega)] at e2
                exact ⟨e1, e2⟩⟩
              have hT := sgT_ok0 ⟨tkk L i, by omega⟩ ⟨k, by omega⟩ (by simp only; omega) hmay
              simp only [q] at hT
              exact DE.chs hl34 d1 (show tyF L i = nI (tyK (tkk L i)) from rfl) hT d2 u0 c0
          · subst hce
            have hle1 : lvN (tkk L i) ≤ 1 := by omega
            rw [if_pos hle1, bT_v, rf_t hA2.2.2.1, ck_t (PrS hP2), bC_t (ev_aim hA2 hC (by omega) (by omega)), if_neg l2, nI_1]
            have hk3 : k = 3 := by
              unfold mayN at hmay
              rw [if_pos (lv_le1 hle1)] at hmay
              exact of_decide_eq_true hmay
            have hA3 : (JA p T L g E Nm Pv nL lc dp ln lk lf hd j cs2 (A2.sD (p + 191) (cs + 1) (nI cs2))) := hA2.code hC
            refine Out.pre (ihm j cs2 k _ _ n n' (tn + 1) (by omega) (by omega) (by omega) (by omega) hA3 hB3 (by omega) hk (by omega) (by omega) (by omega) ?_ ?_ ?_) (exA.rf.sD (decide_eq_true (by omega))) (same.rf.sD (by unfold SRo; omega)) (Nat.le_refl _) hi2 (by omega)
            · refine (hcf.tr hcfA hc0).tr (fun x hx => ?_) (Nat.le_refl cs0)
              rw [rdf (by omega)]
              exact hcf2 x (by omega)
            · exact fun t ht => ⟨by rw [rdf (by omega), (hmf2 t (by omega)).1, rdw (by omega)]; exact (hmf t ht).1, by rw [rdw (by omega), (hmf2 t (by omega)).2, rdw (by omega)]; exact (hmf t ht).2⟩
            · intro cd mn nu hag
              have ca : ∀ x, x ≠ cs + 1 → (A2.sD (p + 191) (cs + 1) (nI cs2)).D (p + 191) x = A2.D (p + 191) x := fun x hx => by rw [rdf hx]
              have c0 := hag.1 cs (by omega) (by omega)
              rw [ca cs (by omega), hcf2 cs (by omega), hcop] at c0
              have c1 := hag.1 (cs + 1) (by omega) (by omega)
              rw [rds] at c1
              have d1 := hch cd mn nu ⟨fun x a b => (hag.1 x a (by omega)).trans ((ca x (by omega)).trans ((hcf2 x (by omega)).trans (hcfA x b))), fun t a b => by
                obtain ⟨e1, e2⟩ := hag.2 t a (by omega)
                obtain ⟨f1, f2⟩ := hmf2 t (by omega)
                rw [rdf (by omega), f1, rdw (by omega)] at e1
                rw [rdw (by omega), f2, rdw (by omega)] at e2
                exact ⟨e1, e2⟩⟩
              have d2 := hde2 cd mn nu ⟨fun x a b => (hag.1 x (by omega) (by omega)).trans (ca x (by omega)), fun t a b => by
                obtain ⟨e1, e2⟩ := hag.2 t (by omega) b
                rw [rdf (by omega)] at e1
                rw [rdw (by omega)] at e2
                exact ⟨e1, e2⟩⟩
              rw [hk3] at d1 d2 ⊢
              refine DE.chj hl01 d1 ?_ c0 c1 d2
              unfold tyF
              have hsv : tkk L i = if l = 0 then 31 else 30 := by
                rcases hsgs with z | z | z | z | z | z | z | z | z | z | z | z | z <;> rw [z] at q ⊢ <;> rcases hl01 with rfl | rfl <;> first | rfl | (exfalso; revert q; decide)
              rw [hsv]
              rcases hl01 with rfl | rfl <;> rfl
        · have fit' : ¬ (mayN (tkk L i) k && decide (k = k2)) = true := fit
          rw [if_neg fit, if_neg fit', bT_z, bC_v]
          have z5 : Zf (failB B2 w 5 (tkp L i)) w 5 (tkp L i) := hB2.1.fail (by decide) (by decide)
          have z6 := z5.sD (a := w + 7) (f := i) (v := nI k) (by omega)
          obtain ⟨n', rfl⟩ : ∃ z, n' = z + 1 := ⟨n' - 1, by omega⟩
          rw [h4 n' (nI k) _ 5 _ z6]
          exact Out.no (k := 5) hB2.1 (by decide) (by decide) hi2 z6 (SRo_fail.tr (same.rf.sD (by unfold SRo; omega)))
      by_cases z1 : l = 0 ∨ l = 1
      · rw [if_pos (show nI l ≤ (1 : Int32) from nI_le (b := 1) (by omega) (by decide))]
        unfold B_Body_signsFrom_87
        have hGa := hA1.1.1.1
        have gg : ∀ v : Int32, v = (if l = 0 then 5 else 4) → (Out (SBo p (E 0 0)) (SRo w) w L i A B (ck ((advA A L i).sh[9]? = some (6, 0)) (bC (F_Body_jump N 9 v (advA A L i)) fun v35 H36 => B_Body_signsFrom_90 N o 9 (nI l) (fun l2 l3 H => B_Body_signsFrom_22 N o 9 (nI l) n l2 l3 H) (nI k) (nI tn) (nI (tkk L i)) (nI (tkp L i)) v35 H36)) (bC (RN (B.sD w 11 (nI (i + 1)))) (RK n' i k)) ((PE p w T L g E Nm Pv nL lc dp ln lk lf hd l i0 cs0 A0 B0))) := by
          intro v hv
          rw [ck_t (rS_9 hGa), bC_t (ev_jump hA1 hC (by omega))]
          refine rest _ (cs + 2) _ ((hA1.add (v := v) hC).add (v := 0) hC) (by omega) (Nat.le_refl _) (fun x hx => ?_) ((adv_ex.mono SL_SBo (Nat.le_refl _)).tr (add_ex.tr add_ex)) (Or.inr ⟨rfl, z1, rfl, ?_⟩)
          · rw [code_add, if_neg (by omega), code_add, if_neg (by omega), code_adv hp]
          · rw [code_add, if_neg (by omega), code_add, if_pos rfl]; exact hv
        by_cases z2 : l = 0
        · rw [if_pos (show nI l = (0 : Int32) by rw [z2]; rfl)]
          exact gg 5 (by rw [if_pos z2])
        · rw [if_neg (show ¬ nI l = (0 : Int32) from fun z => z2 ((nI_eq (b := 0) (by omega) (by decide)).mp z))]
          exact gg 4 (by rw [if_neg z2])
      · rw [if_neg (show ¬ nI l ≤ (1 : Int32) from nI_ge (a := 1) (by omega) (by omega))]
        exact rest (-1) cs _ hA1 (Nat.le_refl _) (by omega) (fun x hx => by rw [code_adv hp]) (adv_ex.mono SL_SBo (Nat.le_refl _)) (Or.inl ⟨rfl, by omega, rfl⟩)
    · rw [if_neg (by rw [elv]; exact q), h0 i B n' k hb.1 q]
      refine Or.inr ⟨_, _, _, _, i, rfl, rfl, Nat.le_refl _, hi, exA.rf.mono (fun _ _ h => h) (by omega), same.rf, k, cs, rfl, rfl, hk, ha, hb, hi0, hc0, hc1, hcf, hmf, fun cd mn nu hag => ?_⟩
      refine DE.cls hl (hch cd mn nu hag) ?_
      have := noS_ok0 ⟨tkk L i, by omega⟩ ⟨l, by omega⟩ (decide_eq_true h81) q
      exact this
end Par
