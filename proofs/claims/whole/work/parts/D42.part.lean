/-! ===== spawn: a part's name ===== -/
section Par
variable {N p w T : Nat} {L : List (Nat × Nat × Int32 × Bool × Nat)} {g : Nat → Nat} {E : Nat → Nat → Nat} {Nm : Nat → Nat → List Nat} {Pv : Nat → Nat → Int32} {nL lc dp : Nat} {ln : Nat → List Nat} {lk lf : Nat → Nat} {hd : Nat → Int32}
def sp63 (N w : Nat) (f : Int32) (K' : Int32 → Hp → Option (Unit × Hp)) (l4 : Int32) (H : Hp) : Option (Unit × Hp) :=
    ck (H.sh[w]? = some (14, 0)) <|
    bC (F_MText_numberOf N w l4 (2 : Int32) H) fun v42 H43 =>
    bnd ((H43.D w 9)) fun x44 =>
    if x44 = (0 : Int32) then
    rf (H43.P w 27) fun a102 =>
    ar H43 100 a102 fun n104 =>
    ck (inb f n104) <|
    bnd ((H43.D a102 (f).toNatClampNeg)) fun x107 =>
    if ((x107 >>> (v42 &&& 31)) &&& (1 : Int32)) = (0 : Int32) then
    bC (F_MText_fails N w (5 : Int32) l4 H43) fun v110 H111 =>
    K' v42 H111
    else
    K' v42 H43
    else
    K' v42 H43
def spR (N w : Nat) (f n : Int32) (K' : Int32 → Hp → Option (Unit × Hp)) (v36 : Int32) (H37 : Hp) : Option (Unit × Hp) :=
    bnd ((H37.D w 9)) fun x38 =>
    if x38 = (0 : Int32) then
    if n = (4 : Int32) then
    bC (F_MText_fails N w (2 : Int32) v36 H37) fun v130 H131 =>
    sp63 N w f K' v36 H131
    else
    sp63 N w f K' v36 H37
    else
    sp63 N w f K' v36 H37
def spC (N : Nat) (f n x5 : Int32) (v10 : Option Nat) (H11 : Hp) : Option (Ot Int32 × Hp) :=
    on v10 fun a13 =>
    if n < (4 : Int32) then
    B_Body_spawnedPart_31 N 9 f n x5 a13 H11
    else
    rf (H11.P 9 0) fun a15 =>
    ck (H11.sh[a15]? = some (1, 0)) <|
    bT (F_Lexer_refuse N a15 (2 : Int32) x5 H11) fun v19 H20 =>
    B_Body_spawnedPart_31 N 9 f n x5 a13 H20
theorem fz_sp63 {B : Hp} {k p0 : Nat} {f l4 : Int32} {K' : Int32 → Hp → Option (Unit × Hp)} (hz : ∀ v B' k p0, Zf B' w k p0 → ∃ B2, K' v B' = some ((), B2) ∧ Zf B2 w k p0 ∧ same (SRo w) B' B2) (h : Zf B w k p0) : ∃ B2, sp63 N w f K' l4 B = some ((), B2) ∧ Zf B2 w k p0 ∧ same (SRo w) B B2 := by
  unfold sp63
  rw [ck_t (TS h.1), bC_t (fz_numberOf h), bnd_t, if_neg h.n0]
  exact hz 0 B k p0 h
theorem jo_part {γ : Type} {A B : Hp} {j cs f n : Nat} {K : Int32 → Hp → Option (Ot γ × Hp)} {K' : Int32 → Hp → Option (Unit × Hp)} {Post : Nat → γ → Hp → Unit → Hp → Prop} (ha : (JA p T L g E Nm Pv nL lc dp ln lk lf hd j cs A)) (hb : (JB w T L g E Nm Pv nL lc dp ln lk lf hd j B)) (hC : (CX p E Nm nL lc dp ln lk lf hd)) (hN : 7000 ≤ N) (hf : f < E 15 0) (hn : n ≤ 4)
    (hs : ∀ A' c, n < 4 → c < E 4 0 → E 16 f / 2 ^ c % 2 = 1 → tkk L j = 2 → (JA p T L g E Nm Pv nL lc dp ln lk lf hd (j + 1) cs A') → (JB w T L g E Nm Pv nL lc dp ln lk lf hd (j + 1) ((B.sD w 11 (nI (j + 1))).sD (w + 7) j (nI c))) → (∀ x, A'.D (p + 191) x = A.D (p + 191) x) → exA SL 1 A A' → (Out (SBo p (E 0 0)) (SRo w) w L (j + 1) A' ((B.sD w 11 (nI (j + 1))).sD (w + 7) j (nI c)) (K (nI c) A') (K' (nI c) ((B.sD w 11 (nI (j + 1))).sD (w + 7) j (nI c))) Post))
    (hz : ∀ v B' k p0, Zf B' w k p0 → ∃ B2, K' v B' = some ((), B2) ∧ Zf B2 w k p0 ∧ same (SRo w) B' B2) :
    (Out (SBo p (E 0 0)) (SRo w) w L j A B (bT (F_Body_spawnedPart N 9 (nI f) (nI n) A) K) (bC (F_MText_name N w B) (spR N w (nI f) (nI n) K')) Post) := by
  have hG := ha.1.1.1
  have hi := ha.1.2.2.2.2.2.2.1
  have hE := hC.1
  have h56 : E 0 0 ≤ 56 := hE.2.2.2.2.2.2.2.2.2.2.2.2.2.1
  have hW := hE.2.2.2.2.2.2.2.2.2.2.2.2.2.2
  have h15 : E 15 0 ≤ 16 := hE.2.2.2.2.2.2.2.2.2.1
  have h16f : E 16 f < 65536 := hE.2.2.2.2.2.2.2.2.2.2.1 f hf
  have h4 : E 4 0 ≤ 16 := hE.1
  have e1 : F_Body_spawnedPart N 9 (nI f) (nI n) A = bT (F_Lexer_takeName N 1 A) (spC N (nI f) (nI n) (nI (tkp L j))) := by
    unfold F_Body_spawnedPart
    rw [ck_t (rS_9 hG), rf_t (rP_9_0 hG), ck_t (rS_1 hG), bnd_t, ha.1.2.2.2.2.2.1, rf_t (rP_9_0 hG), ck_t (rS_1 hG)]
    rfl
  rw [e1, bT_as]
  refine Out.bind (jo_name ha hb hC (by omega)) ?_ ?_
  rotate_left
  · intro y B' k p0 hzf
    unfold spR
    rw [bnd_t, if_neg hzf.n0]
    obtain ⟨B2, g1, g2, g3⟩ := fz_sp63 (N := N) (f := nI f) (l4 := y) hz hzf
    exact ⟨(), B2, g1, g2, g3⟩
  intro j2 v A' y B' hij hxa hsb hQ
  obtain ⟨rfl, q2, rfl, rfl, hA, hB, hco, hxl, s, rfl, s1, s2, s3⟩ := hQ
  have hG' := hA.1.1.1
  have hi' := hA.1.2.2.2.2.2.2.1
  have hP' := hA.pP hC
  unfold spC spR
  rw [on_t, bnd_t, hB.1.2.2.2.1, if_pos (show (0 : Int32) = 0 from rfl)]
  by_cases qn : n < 4
  · rw [if_pos (show nI n < (4 : Int32) from nI_lt (b := 4) qn (by decide)), if_neg (show ¬ nI n = (4 : Int32) from fun z => by have := (nI_eq (b := 4) (by omega) (by decide)).mp z; omega)]
    unfold B_Body_spawnedPart_31 B_Body_spawnedPart_86 sp63
    have en := ev_numberOf (so := 0) hB hC hi hN (by decide)
    rw [ck_t (rS_9 hG'), rf_t hA.2.2.1, ck_t (PrS hP'), bC_t (ev_fnd hA hC s1 (by omega)), ck_t (TS hB.1.1.1)]
    have z5 : Zf (failB (B.sD w 11 (nI (j + 1))) w 5 (tkp L j)) w 5 (tkp L j) := hB.1.fail (by decide) (by decide)
    have z4 : Zf (failB (B.sD w 11 (nI (j + 1))) w 4 (tkp L j)) w 4 (tkp L j) := hB.1.fail (by decide) (by decide)
    cases hk : fnm (Nm 1) (nmT g L j) (E 0 0) 0 with
    | some k =>
      have hkb := fnm_bd _ _ _ hk
      have hw := hW k (by omega)
      have hl : fnm ln (nmT g L j) nL 0 = none := by
        cases z : fnm ln (nmT g L j) nL 0 with
        | none => rfl
        | some l => exact (no_both hC hk z).elim
      rw [hl, hk] at en
      simp only at en
      obtain ⟨n1, n2, n3, n4⟩ := hA.2.1.1 k (by omega)
      have kx := (PrK hP' k (by omega)).2
      have pb : A'.D (p + 182) f = nI (E 16 f) := (hA.2.1.2.2.2.1.2 f hf).1
      have e9 : ∀ (X : Option (Ot Int32 × Hp)) (Y : Nat → Option (Ot Int32 × Hp)), nl (some (p + 2 + k)) X Y = Y (p + 2 + k) := fun X Y => rfl
      show (Out (SBo p (E 0 0)) (SRo w) w L (j + 1) A' _ (bT (nl (some (p + 2 + k)) _ _) K) _ Post)
      rw [e9, ck_t kx, bnd_t, n2]
      by_cases q0 : E 2 k = 0
      · rw [if_pos q0] at en
        have hc : E 3 k < E 4 0 := hw.2.2.1 q0
        have hB3 : (JB w T L g E Nm Pv nL lc dp ln lk lf hd (j + 1) ((B.sD w 11 (nI (j + 1))).sD (w + 7) j (nI (E 3 k)))) := hB.sD rfl
        have pbB : ((B.sD w 11 (nI (j + 1))).sD (w + 7) j (nI (E 3 k))).D (w + 19) f = nI (E 16 f) := (hB3.2.1.2.2.2.1.2 f hf).1
        rw [if_pos (show nI (E 2 k) = (0 : Int32) by rw [q0]; rfl), rf_t hA.2.2.1, ck_t (PrS hP'), rf_t (PrP_5 hP'), ar_t (PrA_5 hP'), rdI (show f < 16 by omega) (by decide), pb, bnd_t, n3, bC_t (show F_MText_numberOf N w (nI j) (2 : Int32) _ = _ from en), bnd_t, bnd_t, hB3.1.2.2.2.1, if_pos (show (0 : Int32) = 0 from rfl), rf_t (TP_27 hB3.1.1.1), ar_t (TA_27 hB3.1.1.1), rdI (show f < 16 by omega) (by decide), pbB]
        by_cases qb : E 16 f / 2 ^ E 3 k % 2 = 1
        · have nb : ¬ ((nI (E 16 f) >>> (nI (E 3 k) &&& 31)) &&& (1 : Int32)) = 0 := fun z => (nI_bit0 (by omega) (by omega)).mp z qb
          rw [if_neg nb, if_neg nb, bT_v]
          exact Out.pre (hs A' (E 3 k) qn hc qb q2 hA hB3 hco hxl) exA.rf (same.rf.sD (by unfold SRo; omega)) (Nat.le_refl _) hi' (by omega)
        · have nb : ((nI (E 16 f) >>> (nI (E 3 k) &&& 31)) &&& (1 : Int32)) = 0 := (nI_bit0 (by omega) (by omega)).mpr qb
          have z7 : Zf (failB ((B.sD w 11 (nI (j + 1))).sD (w + 7) j (nI (E 3 k))) w 5 (tkp L j)) w 5 (tkp L j) := hB3.1.fail (by decide) (by decide)
          obtain ⟨B2, g1, g2, g3⟩ := hz (nI (E 3 k)) _ _ _ z7
          rw [if_pos nb, if_pos nb, ck_t (rS_9 hG'), rf_t (rP_9_0 hG'), ck_t (rS_1 hG'), ev_refuse hG', bT_z, bT_z, bC_t (show F_MText_fails N w (5 : Int32) (nI j) _ = _ from ev_fails (k := 5) hB3.1 hi), g1]
          exact Out.no (k := 5) hB.1 (by decide) (by decide) hi' g2 ((same.rf.sD (by unfold SRo; omega)).tr (SRo_fail.tr g3))
      · rw [if_neg q0] at en
        obtain ⟨B2, g1, g2, g3⟩ := hz 0 _ _ _ z5
        rw [if_neg (show ¬ nI (E 2 k) = (0 : Int32) from fun z => q0 ((nI_eq (b := 0) (by omega) (by decide)).mp z)), ck_t (rS_9 hG'), rf_t (rP_9_0 hG'), ck_t (rS_1 hG'), ev_refuse hG', bT_z, bT_z, bC_t (show F_MText_numberOf N w (nI j) (2 : Int32) _ = _ from en), bnd_t, if_neg z5.n0, g1]
        exact Out.no (k := 5) hB.1 (by decide) (by decide) hi' g2 (SRo_fail.tr g3)
    | none =>
      cases hl : fnm ln (nmT g L j) nL 0 with
      | some l =>
        have hlb := fnm_bd _ _ _ hl
        have h12 : nL ≤ 12 := hC.2.2.2.1
        have hlf := (hC.2.2.2.2.2.2.1 l (by omega)).2.2.1
        rw [hl] at en
        obtain ⟨n1, n2, n3, n4⟩ := hA.2.2.2.2.2.2.2.2.2.1 l (by omega)
        have kx := (PrK hP' (E 0 0 + l) (by omega)).2
        obtain ⟨B2, g1, g2, g3⟩ := hz 0 _ _ _ z5
        have e9 : ∀ (X : Option (Ot Int32 × Hp)) (Y : Nat → Option (Ot Int32 × Hp)), nl (some (p + 2 + (E 0 0 + l))) X Y = Y (p + 2 + (E 0 0 + l)) := fun X Y => rfl
        show (Out (SBo p (E 0 0)) (SRo w) w L (j + 1) A' _ (bT (nl (some (p + 2 + (E 0 0 + l))) _ _) K) _ Post)
        rw [e9, ck_t kx, bnd_t, n2, if_neg (fun z => by have := (nI_eq (b := 0) (by omega) (by decide)).mp z; omega), ck_t (rS_9 hG'), rf_t (rP_9_0 hG'), ck_t (rS_1 hG'), ev_refuse hG', bT_z, bT_z, bC_t (show F_MText_numberOf N w (nI j) (2 : Int32) _ = _ from en), bnd_t, if_neg z5.n0, g1]
        exact Out.no (k := 5) hB.1 (by decide) (by decide) hi' g2 (SRo_fail.tr g3)
      | none =>
        rw [hl, hk] at en
        obtain ⟨B2, g1, g2, g3⟩ := hz 0 _ _ _ z4
        have e9 : ∀ (X : Option (Ot Int32 × Hp)) (Y : Nat → Option (Ot Int32 × Hp)), nl none X Y = X := fun X Y => rfl
        show (Out (SBo p (E 0 0)) (SRo w) w L (j + 1) A' _ (bT (nl none _ _) K) _ Post)
        rw [e9, rf_t (rP_9_0 hG'), ck_t (rS_1 hG'), ev_refuse hG', bT_z, bT_z, bC_t (show F_MText_numberOf N w (nI j) (2 : Int32) _ = _ from en), bnd_t, if_neg z4.n0, g1]
        exact Out.no (k := 4) hB.1 (by decide) (by decide) hi' g2 (SRo_fail.tr g3)
  · have z2 : Zf (failB (B.sD w 11 (nI (j + 1))) w 2 (tkp L j)) w 2 (tkp L j) := hB.1.fail (by decide) (by decide)
    obtain ⟨B2, g1, g2, g3⟩ := fz_sp63 (N := N) (f := nI f) (l4 := nI j) hz z2
    rw [if_neg (show ¬ nI n < (4 : Int32) from nI_nlt (b := 4) (by omega) (by omega)), if_pos (show nI n = (4 : Int32) by rw [show n = 4 by omega]; rfl), rf_t (rP_9_0 hG'), ck_t (rS_1 hG'), ev_refuse hG', bT_z, bT_z, bC_t (show F_MText_fails N w (2 : Int32) (nI j) _ = _ from ev_fails (k := 2) hB.1 hi), g1]
    exact Out.no (k := 2) hB.1 (by decide) (by decide) hi' g2 (SRo_fail.tr g3)
end Par
