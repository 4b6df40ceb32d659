/-! ===== spawn: members and part names over a wider S ===== -/
/-- what was changed, too -/
theorem Out.keep {α β : Type} {S : Nat → Nat → Bool} {R : Nat → Nat → Prop} {w : Nat} {L : List (Nat × Nat × Int32 × Bool × Nat)} {i : Nat} {A B : Hp} {fA : Option (Ot α × Hp)} {fB : Option (β × Hp)} {Post : Nat → α → Hp → β → Hp → Prop} (h : Out S R w L i A B fA fB Post) : Out S R w L i A B fA fB (fun j v A' y B' => exA S (2 * (j - i)) A A' ∧ Post j v A' y B') := by
  rcases h with h | ⟨v, A', y, B', j, e1, e2, e3, e4, e5, e6, e7⟩
  · exact Or.inl h
  · exact Or.inr ⟨v, A', y, B', j, e1, e2, e3, e4, e5, e6, e5, e7⟩
section Par
variable {N p w T : Nat} {L : List (Nat × Nat × Int32 × Bool × Nat)} {g : Nat → Nat} {E : Nat → Nat → Nat} {Nm : Nat → Nat → List Nat} {Pv : Nat → Nat → Int32} {nL lc dp : Nat} {ln : Nat → List Nat} {lk lf : Nat → Nat} {hd : Nat → Int32}
theorem jo_gmS {γ : Type} {S2 : Nat → Nat → Bool} {A B : Hp} {i cs c : Nat} {K : Int32 → Hp → Option (Ot γ × Hp)} {K' : Hp → Option (Unit × Hp)} {Post : Nat → γ → Hp → Unit → Hp → Prop} (ha : (JA p T L g E Nm Pv nL lc dp ln lk lf hd i cs A)) (hb : (JB w T L g E Nm Pv nL lc dp ln lk lf hd i B)) (hC : (CX p E Nm nL lc dp ln lk lf hd)) (hN : 7000 ≤ N) (hS : ∀ a f, S2 a f = false → SBo p (E 0 0) a f = false) (hc : c < E 4 0) (hcs : cs + 2 ≤ 2 * tkp L i)
    (hs : ∀ j m cs' A' B', mOf E c m → (JA p T L g E Nm Pv nL lc dp ln lk lf hd j (cs' + hld (E 6 m)) A') → (JB w T L g E Nm Pv nL lc dp ln lk lf hd j B') → i + 3 < j → tkk L i = 16 → tkk L (i + 1) = 2 → tkk L (i + 2) = 17 → cs ≤ cs' → cs' + 6 + 2 * tkp L i ≤ cs + 2 * tkp L j → cfr p cs A A' → mfr w (i + 1) B B' → (E 6 m = 1 → A'.D (p + 191) cs' = 43) → B'.D (w + 7) (i + 1) = nI m → (∀ cd mn nu, Agr p w cs cs' i j A' B' cd mn nu → DE (tyF L) mn nu cd E nL lc lk hd 0 dp (i + 3) j cs cs' (pl (E 6 m))) → (∃ kk, exA (SBo p (E 0 0)) kk A A') → (Out S2 (SRo w) w L j A' B' (K (nI m) A') (K' B') Post))
    (hz : ∀ B' k p0, Zf B' w k p0 → ∃ B2, K' B' = some ((), B2) ∧ Zf B2 w k p0 ∧ same (SRo w) B' B2) :
    (Out S2 (SRo w) w L i A B (bT (F_Body_givenMember N 9 (nI c) A) fun v110 H111 => bC (F_Body_kindAt N 9 v110 H111) fun v114 H115 => bT (F_Body_want N (X_BodyE N 140) 9 v114 H115) fun v117 H118 => K v110 H118) (bC (F_MText_takes N w (46 : Int32) B) fun v26 H27 => bC (F_MText_memberName N w (nI c) H27) fun v29 H30 => bC (F_MText_takes N w (61 : Int32) H30) fun v32 H33 => bnd ((H33.D w 9)) fun x34 => if x34 = (0 : Int32) then rf (H33.P w 19) fun a44 => ar H33 100 a44 fun n46 => ck (inb v29 n46) <| bnd ((H33.D a44 (v29).toNatClampNeg)) fun x49 => bC (F_MText_plain N x49 H33) fun v51 H52 => bC (F_MText_wants N (X_TextE N 50) w v51 H52) fun v54 H55 => K' H55 else K' H33) Post) := by
  have e : (bC (F_MText_takes N w (46 : Int32) B) fun v26 H27 => bC (F_MText_memberName N w (nI c) H27) fun v29 H30 => bC (F_MText_takes N w (61 : Int32) H30) fun v32 H33 => bnd ((H33.D w 9)) fun x34 => if x34 = (0 : Int32) then rf (H33.P w 19) fun a44 => ar H33 100 a44 fun n46 => ck (inb v29 n46) <| bnd ((H33.D a44 (v29).toNatClampNeg)) fun x49 => bC (F_MText_plain N x49 H33) fun v51 H52 => bC (F_MText_wants N (X_TextE N 50) w v51 H52) fun v54 H55 => K' H55 else K' H33) = bC (gvB N w (nI c) B) fun v29 H33 => bnd ((H33.D w 9)) fun x34 => if x34 = (0 : Int32) then rf (H33.P w 19) fun a44 => ar H33 100 a44 fun n46 => ck (inb v29 n46) <| bnd ((H33.D a44 (v29).toNatClampNeg)) fun x49 => bC (F_MText_plain N x49 H33) fun v51 H52 => bC (F_MText_wants N (X_TextE N 50) w v51 H52) fun v54 H55 => K' H55 else K' H33 := by
    unfold gvB
    simp only [bC_as, bC_v]
  rw [e]
  refine Out.bind ((jo_gvm ha hb hC hN hc).keep.mono hS) ?_ ?_
  rotate_left
  · intro y B' k p0 hzf
    obtain ⟨B2, e1, e2, e3⟩ := hz B' k p0 hzf
    exact ⟨(), B2, by rw [bnd_t, if_neg hzf.n0, e1], e2, e3⟩
  intro j v A3 y B3 hij hxa hsb hQ
  obtain ⟨hxn, rfl, q1, q2, q3, hA3, hB3, hco3, m, hm, rfl, rfl, hmn, hmf3⟩ := hQ
  obtain ⟨p1, p2, p3⟩ := pos_lt hb.1 (show 2 ≤ tkk L i by omega)
  have hE := hC.1
  have h48 : E 5 (E 4 0) ≤ 48 := hE.2.2.2.1
  have hmE : m < E 5 (E 4 0) := by have := (hE.2.2.1 c hc).2.2; have := hm.2.2; omega
  have hk6 : E 6 m ≤ 4 := hE.2.2.2.2.1 m hmE
  have hl3 := hB3.1.2.2.2.2.1
  have u1 : tkp L (i + 1) + 1 ≤ tkp L (i + 2) := nx_pos hB3.1 (by omega)
  have u2 : tkp L (i + 2) + 1 ≤ tkp L (i + 3) := nx_pos hB3.1 (by omega)
  rw [bC_t (ev_kindAt hA3 hC hmE), bnd_t, hB3.1.2.2.2.1, if_pos (show (0 : Int32) = 0 from rfl), rf_t (TP_19 hB3.1.1.1), ar_t (TA_19 hB3.1.1.1), rdI (show m < 48 by omega) (by decide), (hB3.2.1.2.1.2.2.1 m hmE).2, bC_t (ev_plain hk6)]
  refine Out.bind ((jo_want (kw := E 6 m) (jo_expr hN hC) hA3 hB3 hC (by omega) hk6).keep.mono hS) ?_ ?_
  rotate_left
  · intro y B' k p0 hzf
    obtain ⟨B2, e1, e2, e3⟩ := hz B' k p0 hzf
    exact ⟨(), B2, e1, e2, e3⟩
  intro j v A4 y B4 hij hxa hsb hQ
  obtain ⟨hxn4, cs', rfl, hA4, hB4, h1, h2, h3, h4, h5, h6, h7⟩ := hQ
  refine hs j m cs' A4 B4 hm hA4 hB4 h1 q1 q2 q3 h2 (by omega) (fun x hx => ?_) (hmf3.tr h5 (by omega)) h6 ?_ (fun cd mn nu hag => h7 cd mn nu ⟨hag.1, fun t a b => hag.2 t (by omega) b⟩) ⟨_, hxn.tr hxn4⟩
  · rw [h4 x hx, hco3]
  · rw [(h5 (i + 1) (by omega)).1, hmn]
theorem jo_partS {γ : Type} {S2 : Nat → Nat → Bool} {A B : Hp} {j cs f n : Nat} {K : Int32 → Hp → Option (Ot γ × Hp)} {K' : Int32 → Hp → Option (Unit × Hp)} {Post : Nat → γ → Hp → Unit → Hp → Prop} (ha : (JA p T L g E Nm Pv nL lc dp ln lk lf hd j cs A)) (hb : (JB w T L g E Nm Pv nL lc dp ln lk lf hd j B)) (hC : (CX p E Nm nL lc dp ln lk lf hd)) (hN : 7000 ≤ N) (hS : ∀ a f, S2 a f = false → SBo p (E 0 0) a f = false) (hf : f < E 15 0) (hn : n ≤ 4)
    (hs : ∀ A' c, n < 4 → c < E 4 0 → E 16 f / 2 ^ c % 2 = 1 → tkk L j = 2 → (JA p T L g E Nm Pv nL lc dp ln lk lf hd (j + 1) cs A') → (JB w T L g E Nm Pv nL lc dp ln lk lf hd (j + 1) ((B.sD w 11 (nI (j + 1))).sD (w + 7) j (nI c))) → (∀ x, A'.D (p + 191) x = A.D (p + 191) x) → exA SL 1 A A' → (Out S2 (SRo w) w L (j + 1) A' ((B.sD w 11 (nI (j + 1))).sD (w + 7) j (nI c)) (K (nI c) A') (K' (nI c) ((B.sD w 11 (nI (j + 1))).sD (w + 7) j (nI c))) Post))
    (hz : ∀ v B' k p0, Zf B' w k p0 → ∃ B2, K' v B' = some ((), B2) ∧ Zf B2 w k p0 ∧ same (SRo w) B' B2) :
    (Out S2 (SRo w) w L j A B (bT (F_Body_spawnedPart N 9 (nI f) (nI n) A) K) (bC (F_MText_name N w B) (spR N w (nI f) (nI n) K')) Post) := by
  have hG := ha.1.1.1
  have hi := ha.1.2.2.2.2.2.2.1
  have hE := hC.1
  have h56 : E 0 0 ≤ 56 := hE.2.2.2.2.2.2.2.2.2.2.2.2.2.1
  have hW := hE.2.2.2.2.2.2.2.2.2.2.2.2.2.2
  have h15 : E 15 0 ≤ 16 := hE.2.2.2.2.2.2.2.2.2.1
  have h16f : E 16 f < 65536 := hE.2.2.2.2.2.2.2.2.2.2.1 f hf
  have h4 : E 4 0 ≤ 16 := hE.1
  have e1 : F_Body_spawnedPart N 9 (nI f) (nI n) A = bT (F_Lexer_takeName N 1 A) (spC N (nI f) (nI n) (nI (tkp L j))) := by
    unfold F_Body_spawnedPart
    rw [ck_t (rS_9 hG), rf_t (rP_9_0 hG), ck_t (rS_1 hG), bnd_t, ha.1.2.2.2.2.2.1, rf_t (rP_9_0 hG), ck_t (rS_1 hG)]
    rfl
  rw [e1, bT_as]
  refine Out.bind ((jo_name ha hb hC (by omega)).mono hS) ?_ ?_
  rotate_left
  · intro y B' k p0 hzf
    unfold spR
    rw [bnd_t, if_neg hzf.n0]
    obtain ⟨B2, g1, g2, g3⟩ := fz_sp63 (N := N) (f := nI f) (l4 := y) hz hzf
    exact ⟨(), B2, g1, g2, g3⟩
  intro j2 v A' y B' hij hxa hsb hQ
  obtain ⟨rfl, q2, rfl, rfl, hA, hB, hco, hxl, s, rfl, s1, s2, s3⟩ := hQ
  have hG' := hA.1.1.1
  have hi' := hA.1.2.2.2.2.2.2.1
  have hP' := hA.pP hC
  unfold spC spR
  rw [on_t, bnd_t, hB.1.2.2.2.1, if_pos (show (0 : Int32) = 0 from rfl)]
  by_cases qn : n < 4
  · rw [if_pos (show nI n < (4 : Int32) from nI_lt (b := 4) qn (by decide)), if_neg (show ¬ nI n = (4 : Int32) from fun z => by have := (nI_eq (b := 4) (by omega) (by decide)).mp z; omega)]
    unfold B_Body_spawnedPart_31 B_Body_spawnedPart_86 sp63
    have en := ev_numberOf (so := 0) hB hC hi hN (by decide)
    rw [ck_t (rS_9 hG'), rf_t hA.2.2.1, ck_t (PrS hP'), bC_t (ev_fnd hA hC s1 (by omega)), ck_t (TS hB.1.1.1)]
    have z5 : Zf (failB (B.sD w 11 (nI (j + 1))) w 5 (tkp L j)) w 5 (tkp L j) := hB.1.fail (by decide) (by decide)
    have z4 : Zf (failB (B.sD w 11 (nI (j + 1))) w 4 (tkp L j)) w 4 (tkp L j) := hB.1.fail (by decide) (by decide)
    cases hk : fnm (Nm 1) (nmT g L j) (E 0 0) 0 with
    | some k =>
      have hkb := fnm_bd _ _ _ hk
      have hw := hW k (by omega)
      have hl : fnm ln (nmT g L j) nL 0 = none := by
        cases z : fnm ln (nmT g L j) nL 0 with
        | none => rfl
        | some l => exact (no_both hC hk z).elim
      rw [hl, hk] at en
      simp only at en
      obtain ⟨n1, n2, n3, n4⟩ := hA.2.1.1 k (by omega)
      have kx := (PrK hP' k (by omega)).2
      have pb : A'.D (p + 182) f = nI (E 16 f) := (hA.2.1.2.2.2.1.2 f hf).1
      have e9 : ∀ (X : Option (Ot Int32 × Hp)) (Y : Nat → Option (Ot Int32 × Hp)), nl (some (p + 2 + k)) X Y = Y (p + 2 + k) := fun X Y => rfl
      show (Out S2 (SRo w) w L (j + 1) A' _ (bT (nl (some (p + 2 + k)) _ _) K) _ Post)
      rw [e9, ck_t kx, bnd_t, n2]
      by_cases q0 : E 2 k = 0
      · rw [if_pos q0] at en
        have hc : E 3 k < E 4 0 := hw.2.2.1 q0
        have hB3 : (JB w T L g E Nm Pv nL lc dp ln lk lf hd (j + 1) ((B.sD w 11 (nI (j + 1))).sD (w + 7) j (nI (E 3 k)))) := hB.sD rfl
        have pbB : ((B.sD w 11 (nI (j + 1))).sD (w + 7) j (nI (E 3 k))).D (w + 19) f = nI (E 16 f) := (hB3.2.1.2.2.2.1.2 f hf).1
        rw [if_pos (show nI (E 2 k) = (0 : Int32) by rw [q0]; rfl), rf_t hA.2.2.1, ck_t (PrS hP'), rf_t (PrP_5 hP'), ar_t (PrA_5 hP'), rdI (show f < 16 by omega) (by decide), pb, bnd_t, n3, bC_t (show F_MText_numberOf N w (nI j) (2 : Int32) _ = _ from en), bnd_t, bnd_t, hB3.1.2.2.2.1, if_pos (show (0 : Int32) = 0 from rfl), rf_t (TP_27 hB3.1.1.1), ar_t (TA_27 hB3.1.1.1), rdI (show f < 16 by omega) (by decide), pbB]
        by_cases qb : E 16 f / 2 ^ E 3 k % 2 = 1
        · have nb : ¬ ((nI (E 16 f) >>> (nI (E 3 k) &&& 31)) &&& (1 : Int32)) = 0 := fun z => (nI_bit0 (by omega) (by omega)).mp z qb
          rw [if_neg nb, if_neg nb, bT_v]
          exact Out.pre (hs A' (E 3 k) qn hc qb q2 hA hB3 hco hxl) exA.rf (same.rf.sD (by unfold SRo; omega)) (Nat.le_refl _) hi' (by omega)
        · have nb : ((nI (E 16 f) >>> (nI (E 3 k) &&& 31)) &&& (1 : Int32)) = 0 := (nI_bit0 (by omega) (by omega)).mpr qb
          have z7 : Zf (failB ((B.sD w 11 (nI (j + 1))).sD (w + 7) j (nI (E 3 k))) w 5 (tkp L j)) w 5 (tkp L j) := hB3.1.fail (by decide) (by decide)
          obtain ⟨B2, g1, g2, g3⟩ := hz (nI (E 3 k)) _ _ _ z7
          rw [if_pos nb, if_pos nb, ck_t (rS_9 hG'), rf_t (rP_9_0 hG'), ck_t (rS_1 hG'), ev_refuse hG', bT_z, bT_z, bC_t (show F_MText_fails N w (5 : Int32) (nI j) _ = _ from ev_fails (k := 5) hB3.1 hi), g1]
          exact (Out.no (k := 5) hB.1 (by decide) (by decide) hi' g2 ((same.rf.sD (by unfold SRo; omega)).tr (SRo_fail.tr g3))).mono hS
      · rw [if_neg q0] at en
        obtain ⟨B2, g1, g2, g3⟩ := hz 0 _ _ _ z5
        rw [if_neg (show ¬ nI (E 2 k) = (0 : Int32) from fun z => q0 ((nI_eq (b := 0) (by omega) (by decide)).mp z)), ck_t (rS_9 hG'), rf_t (rP_9_0 hG'), ck_t (rS_1 hG'), ev_refuse hG', bT_z, bT_z, bC_t (show F_MText_numberOf N w (nI j) (2 : Int32) _ = _ from en), bnd_t, if_neg z5.n0, g1]
        exact (Out.no (k := 5) hB.1 (by decide) (by decide) hi' g2 (SRo_fail.tr g3)).mono hS
    | none =>
      cases hl : fnm ln (nmT g L j) nL 0 with
      | some l =>
        have hlb := fnm_bd _ _ _ hl
        have h12 : nL ≤ 12 := hC.2.2.2.1
        have hlf := (hC.2.2.2.2.2.2.1 l (by omega)).2.2.1
        rw [hl] at en
        obtain ⟨n1, n2, n3, n4⟩ := hA.2.2.2.2.2.2.2.2.2.1 l (by omega)
        have kx := (PrK hP' (E 0 0 + l) (by omega)).2
        obtain ⟨B2, g1, g2, g3⟩ := hz 0 _ _ _ z5
        have e9 : ∀ (X : Option (Ot Int32 × Hp)) (Y : Nat → Option (Ot Int32 × Hp)), nl (some (p + 2 + (E 0 0 + l))) X Y = Y (p + 2 + (E 0 0 + l)) := fun X Y => rfl
        show (Out S2 (SRo w) w L (j + 1) A' _ (bT (nl (some (p + 2 + (E 0 0 + l))) _ _) K) _ Post)
        rw [e9, ck_t kx, bnd_t, n2, if_neg (fun z => by have := (nI_eq (b := 0) (by omega) (by decide)).mp z; omega), ck_t (rS_9 hG'), rf_t (rP_9_0 hG'), ck_t (rS_1 hG'), ev_refuse hG', bT_z, bT_z, bC_t (show F_MText_numberOf N w (nI j) (2 : Int32) _ = _ from en), bnd_t, if_neg z5.n0, g1]
        exact (Out.no (k := 5) hB.1 (by decide) (by decide) hi' g2 (SRo_fail.tr g3)).mono hS
      | none =>
        rw [hl, hk] at en
        obtain ⟨B2, g1, g2, g3⟩ := hz 0 _ _ _ z4
        have e9 : ∀ (X : Option (Ot Int32 × Hp)) (Y : Nat → Option (Ot Int32 × Hp)), nl none X Y = X := fun X Y => rfl
        show (Out S2 (SRo w) w L (j + 1) A' _ (bT (nl none _ _) K) _ Post)
        rw [e9, rf_t (rP_9_0 hG'), ck_t (rS_1 hG'), ev_refuse hG', bT_z, bT_z, bC_t (show F_MText_numberOf N w (nI j) (2 : Int32) _ = _ from en), bnd_t, if_neg z4.n0, g1]
        exact (Out.no (k := 4) hB.1 (by decide) (by decide) hi' g2 (SRo_fail.tr g3)).mono hS
  · have z2 : Zf (failB (B.sD w 11 (nI (j + 1))) w 2 (tkp L j)) w 2 (tkp L j) := hB.1.fail (by decide) (by decide)
    obtain ⟨B2, g1, g2, g3⟩ := fz_sp63 (N := N) (f := nI f) (l4 := nI j) hz z2
    rw [if_neg (show ¬ nI n < (4 : Int32) from nI_nlt (b := 4) (by omega) (by omega)), if_pos (show nI n = (4 : Int32) by rw [show n = 4 by omega]; rfl), rf_t (rP_9_0 hG'), ck_t (rS_1 hG'), ev_refuse hG', bT_z, bT_z, bC_t (show F_MText_fails N w (2 : Int32) (nI j) _ = _ from ev_fails (k := 2) hB.1 hi), g1]
    exact (Out.no (k := 2) hB.1 (by decide) (by decide) hi' g2 (SRo_fail.tr g3)).mono hS
end Par
