/-! ===== components: read alike ===== -/
/-- the record later on -/
def ExtE (E E' : Nat → Nat → Nat) : Prop := E 4 0 ≤ E' 4 0 ∧ (∀ c, c ≤ E 4 0 → E' 5 c = E 5 c) ∧ (∀ m, m < E 5 (E 4 0) → E' 6 m = E 6 m) ∧ E 9 0 ≤ E' 9 0 ∧ (∀ e, e ≤ E 9 0 → E' 11 e = E 11 e) ∧ (∀ e, e < E 9 0 → E' 10 e = E 10 e) ∧ (∀ e q, e < E 9 0 → q < E 10 e → E' 12 (4 * e + q) = E 12 (4 * e + q)) ∧ E 15 0 ≤ E' 15 0 ∧ (∀ f, f < E 15 0 → E' 16 f = E 16 f) ∧ E 17 0 ≤ E' 17 0 ∧ (∀ s, s < E 17 0 → E' 18 s = E 18 s ∧ E' 19 s = E 19 s ∧ E' 20 s = E 20 s ∧ E' 21 s = E 21 s ∧ E' 22 s = E 22 s ∧ E' 23 s = E 23 s ∧ E' 24 s = E 24 s ∧ E' 25 s = E 25 s) ∧ E 5 (E 4 0) ≤ E' 5 (E' 4 0)
theorem ExtE.rf {E : Nat → Nat → Nat} : ExtE E E := ⟨Nat.le_refl _, fun _ _ => rfl, fun _ _ => rfl, Nat.le_refl _, fun _ _ => rfl, fun _ _ => rfl, fun _ _ _ _ => rfl, Nat.le_refl _, fun _ _ => rfl, Nat.le_refl _, fun _ _ => ⟨rfl, rfl, rfl, rfl, rfl, rfl, rfl, rfl⟩, Nat.le_refl _⟩
theorem ExtE.tr {E F G : Nat → Nat → Nat} (h : ExtE E F) (k : ExtE F G) : ExtE E G := by
  obtain ⟨a1, a2, a3, a4, a5, a6, a7, a8, a9, a10, a11, a12⟩ := h
  obtain ⟨b1, b2, b3, b4, b5, b6, b7, b8, b9, b10, b11, b12⟩ := k
  refine ⟨by omega, fun c hc => by rw [b2 c (by omega), a2 c hc], fun m hm => by rw [b3 m (by omega), a3 m hm], by omega, fun e he => by rw [b5 e (by omega), a5 e he], fun e he => by rw [b6 e (by omega), a6 e he], fun e q he hq => by rw [b7 e q (by omega) (by rw [a6 e he]; exact hq), a7 e q he hq], by omega, fun f hf => by rw [b9 f (by omega), a9 f hf], by omega, fun s hs => ?_, by omega⟩
  obtain ⟨c1, c2, c3, c4, c5, c6, c7, c8⟩ := a11 s hs
  obtain ⟨d1, d2, d3, d4, d5, d6, d7, d8⟩ := b11 s (by omega)
  exact ⟨d1.trans c1, d2.trans c2, d3.trans c3, d4.trans c4, d5.trans c5, d6.trans c6, d7.trans c7, d8.trans c8⟩
/-- the code, what names mean and numbers stay -/
def kep (p w : Nat) (A B A' B' : Hp) : Prop := (∀ x, A'.D (p + 191) x = A.D (p + 191) x) ∧ ∀ t, B'.D (w + 7) t = B.D (w + 7) t ∧ B'.D (w + 5) t = B.D (w + 5) t
theorem kep.tr {p w : Nat} {A B A1 B1 A2 B2 : Hp} (h : kep p w A B A1 B1) (k : kep p w A1 B1 A2 B2) : kep p w A B A2 B2 := ⟨fun x => (k.1 x).trans (h.1 x), fun t => ⟨(k.2 t).1.trans (h.2 t).1, (k.2 t).2.trans (h.2 t).2⟩⟩
section Par
variable {N p w T : Nat} {L : List (Nat × Nat × Int32 × Bool × Nat)} {g : Nat → Nat} {E : Nat → Nat → Nat} {Nm : Nat → Nat → List Nat} {Pv : Nat → Nat → Int32} {nL lc dp : Nat} {ln : Nat → List Nat} {lk lf : Nat → Nat} {hd : Nat → Int32}
theorem ev_isKind {B : Hp} {i : Nat} (hb : LB B w L T g i) : F_MText_isKind N w B = some (bI (decide (49 ≤ tkk L i ∧ tkk L i ≤ 53)), B) := by
  have hG := hb.1.1
  have hi := hb.2.2.2.2.1
  have h61 : L.length ≤ 6001 := by have := hb.2.2.2.2.2.2.1; have := hb.2.2.2.2.2.2.2.1; omega
  have h81 := (hb.2.2.2.2.2.2.2.2.2.1 i hi).2.1
  have c : ∀ k : Fin 81, (nI (tyK k.val) < (209 : Int32) ↔ k.val < 49) ∧ ((213 : Int32) < nI (tyK k.val) ↔ 53 < k.val) := by decide +kernel
  obtain ⟨c1, c2⟩ := c ⟨tkk L i, by omega⟩
  unfold F_MText_isKind
  rw [ck_t (TS hG), bnd_t, hb.2.2.2.1, if_pos rfl, rf_t (TP_3 hG), bnd_t, hb.2.2.1, ar_t (TA_3 hG), rdI (show i < 6002 by omega) (by decide), (hb.2.1 i hi).1]
  by_cases z1 : tkk L i < 49
  · rw [if_pos (c1.mpr z1), decide_eq_false (by omega)]; rfl
  · rw [if_neg (fun z => z1 (c1.mp z)), rf_t (TP_3 hG), bnd_t, ar_t (TA_3 hG), rdI (show i < 6002 by omega) (by decide), (hb.2.1 i hi).1]
    by_cases z2 : 53 < tkk L i
    · rw [if_pos (c2.mpr z2), decide_eq_false (by omega)]; rfl
    · rw [if_neg (fun z => z2 (c2.mp z)), decide_eq_true (by omega)]; rfl
theorem ev_kind {B : Hp} {i : Nat} (hb : LB B w L T g i) : F_MText_kind N w B = if 49 ≤ tkk L i ∧ tkk L i ≤ 53 then some (nI (tkk L i - 49), B.sD w 11 (nI (i + 1))) else some (0, failB B w 1 (tkp L i)) := by
  have hG := hb.1.1
  have hi := hb.2.2.2.2.1
  have h61 : L.length ≤ 6001 := by have := hb.2.2.2.2.2.2.1; have := hb.2.2.2.2.2.2.2.1; omega
  unfold F_MText_kind
  rw [ck_t (TS hG), rf_t (TP_3 hG), bnd_t, hb.2.2.1, ar_t (TA_3 hG), rdI (show i < 6002 by omega) (by decide), (hb.2.1 i hi).1, bnd_t, bC_t (ev_isKind hb)]
  by_cases z : 49 ≤ tkk L i ∧ tkk L i ≤ 53
  · have c : ∀ k : Fin 54, 49 ≤ k.val → nI (tyK k.val) - (209 : Int32) = nI (k.val - 49) := by decide +kernel
    have c1 := c ⟨tkk L i, by omega⟩ z.1
    simp only at c1
    rw [decide_eq_true z, if_neg bI_t0, if_pos z]
    unfold B_MText_kind_30 B_MText_kind_47
    rw [ck_t (TS hG), bnd_t, bnd_t, hb.2.2.2.1, if_pos rfl, ck_t (TS hG), bnd_t, hb.2.2.1, nI_1, ck_t (show (B.sD w 11 (nI (i + 1))).sh[w]? = some (14, 0) from TS hG), bnd_t, rdf (by decide), hb.2.2.2.1, if_pos rfl, c1]
  · have z1 : Zf (failB B w 1 (tkp L i)) w 1 (tkp L i) := hb.fail (by decide) (by decide)
    rw [decide_eq_false z, if_pos bI_f, if_neg z, bnd_t, hb.2.2.1, bC_t (show F_MText_fails N w (1 : Int32) (nI i) B = _ from ev_fails (k := 1) hb hi)]
    unfold B_MText_kind_30 B_MText_kind_47
    obtain ⟨i', z6, z7⟩ := z1.2.2.2.2.2
    rw [ck_t (TS z1.1), bnd_t, bnd_t, if_neg z1.n0, ck_t (TS z1.1), bnd_t, z6, Int32.add_zero, ← z6, sD_self, ck_t (TS z1.1), bnd_t, if_neg z1.n0]
theorem fz_c164 {B : Hp} {k p0 : Nat} {kq : Int32 → Hp → Option (Unit × Hp)} {a b c d : Int32} (h : Zf B w k p0) : B_MText_component_164 N w kq a b c d B = some ((), B) := by
  unfold B_MText_component_164
  rw [ck_t (TS h.1), bC_t (fz_takes h), bnd_t, if_neg h.nle]
theorem fz_c127 {B : Hp} {k p0 : Nat} {kq : Int32 → Hp → Option (Unit × Hp)} {a b : Int32} (h : Zf B w k p0) : B_MText_component_127 N w kq a b B = some ((), B) := by
  unfold B_MText_component_127
  rw [ck_t (TS h.1), bC_t (fz_kind h), bC_t (fz_name h), bnd_t, if_neg h.n0, fz_c164 h]
/-- a member, reference -/
def cmB (N w : Nat) (kq : Int32 → Hp → Option (Unit × Hp)) (l1 : Int32) (H40 : Hp) : Option (Unit × Hp) :=
    rf (H40.P w 18) fun a42 =>
    ar H40 100 a42 fun n44 =>
    ck (inb (l1 + (1 : Int32)) n44) <|
    bnd ((H40.D a42 ((l1 + (1 : Int32))).toNatClampNeg)) fun x47 =>
    bC (F_MText_isKind N w H40) fun v49 H50 =>
    if v49 = (0 : Int32) then
    B_MText_component_127 N w kq l1 x47 H50
    else
    rf (H50.P w 18) fun a136 =>
    ar H50 100 a136 fun n138 =>
    ck (inb l1 n138) <|
    bnd ((H50.D a136 (l1).toNatClampNeg)) fun x141 =>
    if (x47 - x141) = (8 : Int32) then
    B_MText_component_118 N w kq l1 x47 H50
    else
    if x47 = (48 : Int32) then
    B_MText_component_118 N w kq l1 x47 H50
    else
    B_MText_component_127 N w kq l1 x47 H50
/-- and class -/
def cmA (N : Nat) (q : Nat) (K : Hp → Option (Ot Unit × Hp)) (A : Hp) : Option (Ot Unit × Hp) :=
    bT (F_Reader_readMember N 8 q (8 : Int32) A) fun v53 H54 =>
    rf (H54.P 8 0) fun a56 =>
    ck (H54.sh[a56]? = some (1, 0)) <|
    bT (F_Lexer_take N a56 (15 : Int32) H54) fun v60 H61 =>
    K H61
theorem jo_cmem {A B : Hp} {i cs c : Nat} {K : Hp → Option (Ot Unit × Hp)} {kq : Int32 → Hp → Option (Unit × Hp)} {Post : Nat → Unit → Hp → Unit → Hp → Prop} (ha : (UA p T L g E Nm Pv i cs A)) (hb : (UB w T L g E Nm Pv i B)) (hC : WU p E) (hN : 7000 ≤ N) (hc : E 4 0 = c + 1) (hF : ∀ f, f < E 15 0 → E 16 f < 2 ^ c)
    (hs : ∀ A' B' kd nm, fnm (Nm 7) nm (E 5 (c + 1) - E 5 c) (E 5 c) = none → kd ≤ 4 → E 5 (E 4 0) < 48 → E 5 (c + 1) < E 5 c + 8 → WU p (emE E kd) → (UA p T L g (emE E kd) (emN Nm E nm) Pv (i + 3) cs A') → (UB w T L g (emE E kd) (emN Nm E nm) Pv (i + 3) B') → i + 3 < L.length → kep p w A B A' B' → (Out (SD p) (SRd w) w L (i + 3) A' B' (K A') (kq (nI c) B') Post)) :
    (Out (SD p) (SRd w) w L i A B (cmA N (p + 70) K A) (cmB N w kq (nI c) B) Post) := by
  have hG := ha.1.1.1
  have hi := ha.1.2.2.2.2.2.2.1
  have hp := hC.2.1
  have hE := hC.1
  have hP := ha.pP hC
  obtain ⟨w1, w2, w3, w4, w5⟩ := hE.w2
  obtain ⟨m1, m2, m3⟩ := w3 c (by omega)
  obtain ⟨e1, e2, e3, e4⟩ := ha.2.1.2.1
  obtain ⟨f1, f2, f3, f4⟩ := hb.2.1.2.1
  have h81 := (hb.1.2.2.2.2.2.2.2.2.2.1 i hi).2.1
  have ck1 : ∀ k : Fin 81, (nI k.val - (49 : Int32) < 0 ↔ k.val < 49) ∧ (49 ≤ k.val → (nI k.val - (49 : Int32) ≤ 4 ↔ k.val ≤ 53)) ∧ (49 ≤ k.val → nI k.val - (49 : Int32) = nI (k.val - 49)) := by decide +kernel
  obtain ⟨k1, k2, k3⟩ := ck1 ⟨tkk L i, by omega⟩
  simp only at k1 k2 k3
  unfold cmA cmB F_Reader_readMember
  rw [ck_t (rS_8 hG), rf_t (rP_8_0 hG), ck_t (rS_1 hG), bnd_t, ha.1.2.2.2.2.1, bnd_t, rf_t (TP_18 hb.1.1.1), ar_t (TA_18 hb.1.1.1), nI_1, rdI (show c + 1 < 17 by omega) (by decide), f2 (c + 1) (by omega), bC_t (ev_isKind hb.1)]
  by_cases z : 49 ≤ tkk L i ∧ tkk L i ≤ 53
  · rw [if_neg (fun q => by have := k1.mp q; omega), if_pos ((k2 z.1).mpr z.2), decide_eq_true z, if_neg bI_t0, rf_t (TP_18 hb.1.1.1), ar_t (TA_18 hb.1.1.1), rdI (show c < 17 by omega) (by decide), f2 c (by omega), nI_dif m1]
    unfold B_Reader_readMember_35
    rw [ck_t (PrA_2 hP), bnd_t, e1, hc, nI_m, bnd_t, bC_t (ev_sizeOf (fr := p + 137) (R := 17) (PrA_2 hP) (PcP_2 hP) (PcA_2 hP) (by decide) (by rw [hc] at e1; exact e1) (by omega) (show c < c + 1 by omega) (e2 c (by omega)) (e2 (c + 1) (by omega)) m1)]
    have efull : ∀ B', B' = failB B w 2 (tkp L i) → B_MText_component_118 N w kq (nI c) (nI (E 5 (c + 1))) B = some ((), B') := by
      intro B' hB'
      have z2 : Zf (failB B w 2 (tkp L i)) w 2 (tkp L i) := hb.1.fail (by decide) (by decide)
      unfold B_MText_component_118
      rw [ck_t (TS hb.1.1.1), bnd_t, hb.1.2.2.1, bC_t (show F_MText_fails N w (2 : Int32) (nI i) B = _ from ev_fails (k := 2) hb.1 hi), fz_c127 z2, hB']
    have eref : B_Reader_readMember_65 N 8 (p + 70) 8 (nI (tkk L i) - 49) (nI c) A = some (.inr A.sh.length, refA A 2 (nI (tkp L i))) := by
      unfold B_Reader_readMember_65
      rw [ck_t (rS_8 hG), rf_t (rP_8_0 hG), rf_t (rP_8_0 hG), ck_t (rS_1 hG), bnd_t, ha.1.2.2.2.2.2.1, ck_t (rS_1 hG), ev_refuse hG, bT_z]
    have hfail : (Out (SD p) (SRd w) w L i A B ((some (.inr A.sh.length, refA A 2 (nI (tkp L i))) : Option (Ot Unit × Hp))) ((some ((), failB B w 2 (tkp L i)) : Option (Unit × Hp))) Post) := Out.noD (k := 2) hb.1 (by decide) (by decide) hi (hb.1.fail (by decide) (by decide)) SRd_fail
    by_cases q8 : E 5 (c + 1) - E 5 c = 8
    · rw [if_pos (show (8 : Int32) ≤ nI (E 5 (c + 1) - E 5 c) by rw [q8]; decide), if_pos (show nI (E 5 (c + 1) - E 5 c) = (8 : Int32) by rw [q8]; rfl), eref, bT_z, efull _ rfl]
      exact hfail
    · rw [if_neg (show ¬ (8 : Int32) ≤ nI (E 5 (c + 1) - E 5 c) from nI_ge (b := 8) (by omega) (by decide)), if_neg (show ¬ nI (E 5 (c + 1) - E 5 c) = (8 : Int32) from fun y => q8 ((nI_eq (b := 8) (by omega) (by decide)).mp y))]
      have etot : F_Shapes_total N (p + 70) A = some (nI (E 5 (c + 1)), A) := by
        unfold F_Shapes_total
        rw [ck_t (PrA_2 hP), rf_t (PcP_2 hP), bnd_t, e1, hc, ar_t (PcA_2 hP), rdI (show c + 1 < 17 by omega) (by decide), e2 (c + 1) (by omega)]
      rw [bC_t etot, rf_t (PcP_1 hP), ar_t (PcA_1 hP), show Int32.ofNat 48 = nI 48 from rfl]
      by_cases q48 : E 5 (c + 1) = 48
      · rw [if_neg (show ¬ nI (E 5 (c + 1)) < nI 48 from nI_nlt (by omega) (by omega)), if_pos (show nI (E 5 (c + 1)) = (48 : Int32) by rw [q48]; rfl), eref, bT_z, efull _ rfl]
        exact hfail
      · have h48 : E 5 (c + 1) < 48 := by rw [hc] at w4; omega
        have hnx := hb.1.gt (show 2 ≤ tkk L i by omega)
        have hA1 := ha.adv hC hnx
        have hB1 := hb.nx hnx
        have hG1 := hA1.1.1.1
        rw [if_pos (show nI (E 5 (c + 1)) < nI 48 from nI_lt h48 (by decide)), if_neg (show ¬ nI (E 5 (c + 1)) = (48 : Int32) from fun y => q48 ((nI_eq (b := 48) (by omega) (by decide)).mp y))]
        unfold B_Reader_readMember_80 B_MText_component_127
        rw [ck_t (rS_8 hG), rf_t (rP_8_0 hG), ck_t (rS_1 hG), bC_t (ev_advance ha.1 hnx), rf_t (rP_8_0 hG1), ck_t (rS_1 hG1), bnd_t, hA1.1.2.2.2.2.2.1, rf_t (rP_8_0 hG1), ck_t (rS_1 hG1), ck_t (TS hb.1.1.1), ev_kind hb.1, if_pos z, bC_v, bT_as]
        refine Out.pre (Out.bind (jo_uname hA1.1 hB1.1 (by omega)) ?_ ?_) (adv_ex.mono SL_SD (Nat.le_refl _)) (same.rf.sD (by unfold SRd; omega)) (show i ≤ i + 1 by omega) hnx (by omega)
        rotate_left
        · intro y B' k p0 hz
          exact ⟨(), B', by rw [bnd_t, if_neg hz.n0, fz_c164 hz], hz, same.rf⟩
        intro j v A2 y B2 hij hxa hsb hQ
        obtain ⟨rfl, t2, hn2, rfl, hBe, hl2, hr2, hx2, s, rfl, s1, s2, s3⟩ := hQ
        have hA2 := hA1.sl hx2 hC hl2
        have hB2 : (UB w T L g E Nm Pv (i + 1 + 1) B2) := by rw [hBe]; exact hB1.nx hn2
        have hG2 := hl2.1.1
        have hP2 := hA2.pP hC
        obtain ⟨g1, g2, g3, g4⟩ := hA2.2.1.2.1
        obtain ⟨o1, o2, o3, o4⟩ := hB2.2.1.2.1
        have eM : F_Shapes_memberNamed N (p + 70) (nI c) s A2 = some (oNI (fnm (Nm 7) (nmT g L (i + 1)) (E 5 (c + 1) - E 5 c) (E 5 c)), A2) := ev_mnamed (m := p + 88) (M := 48) (R := 17) (fr := p + 137) (PrA_2 hP2) (PcP_1 hP2) (PcA_1 hP2) (PcM hP2) (PcP_2 hP2) (PcA_2 hP2) (by decide) (by decide) g1 (by omega) (by omega) (g2 c (by omega)) (g2 (c + 1) (by omega)) m1 (by omega) s1 (fun i h1 h2 => (g3 i (by rw [hc]; exact h2)).1) (by omega)
        have eB : F_MText_member N w (nI c) w (nI (i + 1)) B2 = some (oNI (fnm (Nm 7) (nmT g L (i + 1)) (E 5 (c + 1) - E 5 c) (E 5 c)), B2) := ev_member hB2.1.1.1 hB2.1.1.1 (by omega) (o2 c (by omega)) (o2 (c + 1) (by omega)) m1 (by omega) (hB2.1.tn (by omega)) (fun i h1 h2 => (o3 i (by rw [hc]; exact h2)).1) hN
        rw [on_t, ck_t (PrA_2 hP2), bC_t eM, bnd_t, hB2.1.2.2.2.1, if_pos rfl, bC_t eB]
        cases hk : fnm (Nm 7) (nmT g L (i + 1)) (E 5 (c + 1) - E 5 c) (E 5 c) with
        | some m =>
          have hkb := fnm_bd _ _ _ hk
          have z3 : Zf (failB B2 w 3 (tkp L (i + 1))) w 3 (tkp L (i + 1)) := hB2.1.fail (by decide) (by decide)
          rw [show oNI (some m) = nI m from rfl, if_neg (nI_pos (by omega)), if_neg (nI_pos (by omega)), rf_t (rP_8_0 hG2), ck_t (rS_1 hG2), ev_refuse hG2, bT_z, bT_z, bC_t (show F_MText_fails N w (3 : Int32) (nI (i + 1)) _ = _ from ev_fails (k := 3) hB2.1 (by omega)), fz_c164 z3]
          exact Out.noD (k := 3) hB2.1 (by decide) (by decide) hn2 z3 SRd_fail
        | none =>
          have kd4 : tkk L i - 49 ≤ 4 := by omega
          have eAdd : F_Shapes_addMember N (p + 70) s (nI (tkk L i - 49)) A2 = some ((), meA A2 p (E 5 (E 4 0)) (E 4 0) s (E 5 (c + 1) - E 5 c) (tkk L i - 49)) := by
            unfold F_Shapes_addMember
            have rP : ∀ f, (ntA A2 (p + 89 + E 5 (c + 1)) s 4 (nI (E 5 (c + 1) - E 5 c)) (nI (tkk L i - 49))).P (p + 70) f = A2.P (p + 70) f := fun f => ntA_Po (Or.inl (by omega))
            rw [ck_t (PrA_2 hP2), rf_t (PcP_2 hP2), bnd_t, g1, hc, ar_t (PcA_2 hP2), rdI (show c + 1 < 17 by omega) (by decide), g2 (c + 1) (by omega), bnd_t, if_neg (show ¬ nI (c + 1) ≤ (0 : Int32) from nI_ge (a := 0) (b := c + 1) (by omega) (by omega)), rf_t (PcP_1 hP2), ar_t (PcA_1 hP2), show Int32.ofNat 48 = nI 48 from rfl, if_neg (show ¬ nI 48 ≤ nI (E 5 (c + 1)) from nI_ge h48 (by decide)), rf_t (PcP_1 hP2), ar_t (PcA_1 hP2), rdP (show E 5 (c + 1) < 48 by omega) (by decide), rf_t (PcM hP2 (E 5 (c + 1)) h48).1, rf_t (PcP_2 hP2), bnd_t, ar_t (PcA_2 hP2), nI_m, rdI (show c < 17 by omega) (by decide), g2 c (by omega), nI_dif m1, show p + 88 + 1 + E 5 (c + 1) = p + 89 + E 5 (c + 1) by omega, ck_t (by have := (PcM hP2 (E 5 (c + 1)) h48).2; rw [show p + 88 + 1 + E 5 (c + 1) = p + 89 + E 5 (c + 1) by omega] at this; exact this), bC_t (ev_ntell (by have := (PcM hP2 (E 5 (c + 1)) h48).2; rw [show p + 88 + 1 + E 5 (c + 1) = p + 89 + E 5 (c + 1) by omega] at this; exact this)), rP, rf_t (PcP_2 hP2), bnd_t, ntA_Do (by omega), g1, hc]
            rw [ar_t (show (ntA A2 (p + 89 + E 5 (c + 1)) s 4 (nI (E 5 (c + 1) - E 5 c)) (nI (tkk L i - 49))).sh[p + 137]? = some (100, 17) from (PcA_2 hP2 : A2.sh[p + 137]? = some (100, 17))), wrI (show c + 1 < 17 by omega) (by decide), nI_1]
            rfl
          have hA3 := hA2.memb (kd := tkk L i - 49) (d := E 5 (c + 1) - E 5 c) hC hc hF (by rw [hc]; exact h48) s1 s2 s3
          have hx3 : exA (SD p) 0 A2 (meA A2 p (E 5 (E 4 0)) (E 4 0) s (E 5 (c + 1) - E 5 c) (tkk L i - 49)) := by
            rw [hc]
            exact (ntA_ex (fun y => decide_eq_true (by omega))).sD (decide_eq_true (by omega))
          have hG3 := hA3.1.1.1
          rw [show oNI none = -1 from rfl, if_pos (by decide), if_pos (by decide)]
          unfold B_Reader_readMember_126 B_MText_component_164
          rw [ck_t (PrA_2 hP2), k3 z.1, bC_t eAdd, bT_v, rf_t (rP_8_0 hG3), ck_t (rS_1 hG3), ck_t (TS hB2.1.1.1)]
          refine Out.pre (i := i + 1 + 1) (j := i + 1 + 1) (k := 0) (A1 := meA A2 p (E 5 (E 4 0)) (E 4 0) s (E 5 (c + 1) - E 5 c) (tkk L i - 49)) (B1 := B2) ?_ hx3 same.rf (Nat.le_refl _) hn2 (by omega)
          refine Out.bind (show _ from jo_utake (k := 15) hA3.1 hB2.1 (by decide) (by decide)) ?_ ?_
          rotate_left
          · intro y B' k p0 hz
            exact ⟨(), B', by rw [bnd_t, if_neg hz.nle], hz, same.rf⟩
          intro j v A4 y B4 hij4 hxa4 hsb4 hQ
          obtain ⟨rfl, t15, hn3, hAe4, hBe4, hl4, hr4⟩ := hQ
          have hE' := emE_W (kd := tkk L i - 49) hC hc (by rw [hc]; exact h48) (by omega) kd4
          have hA4 : (UA p T L g (emE E (tkk L i - 49)) (emN Nm E (nmT g L (i + 1))) Pv (i + 3) cs A4) := by
            rw [hAe4]; exact hA3.adv hE' hn3
          have hB4' : (UB w T L g E Nm Pv (i + 3) B4) := by rw [hBe4]; exact hB2.nx hn3
          have hB5 := hB4'.memb (kd := tkk L i - 49) hC hc hF (show i + 1 < L.length by omega)
          have ww : (B4.D (w + 12) (c + 1)) = nI (E 5 (c + 1)) := hB4'.2.1.2.1.2.1 (c + 1) (by omega)
          rw [bnd_t, hB4'.1.2.2.2.1, if_pos (by decide), rf_t (TP_19 hB4'.1.1.1), ar_t (TA_19 hB4'.1.1.1), wrI (show E 5 (c + 1) < 48 from h48) (by decide), sD_P, rf_t (TP_20 hB4'.1.1.1), ar_sD, ar_t (TA_20 hB4'.1.1.1), wrI (show E 5 (c + 1) < 48 from h48) (by decide), sD_P, sD_P, rf_t (TP_18 hB4'.1.1.1), ar_sD, ar_sD, ar_t (TA_18 hB4'.1.1.1), nI_1, rdI (show c + 1 < 17 by omega) (by decide), rdw (by omega), rdw (by omega), ww, nI_1, wrI (show c + 1 < 17 by omega) (by decide)]
          have hB6 : meB B4 w (E 5 (E 4 0)) (E 4 0) (i + 1) (tkk L i - 49) = ((B4.sD (w + 13) (E 5 (c + 1)) (nI (tkk L i - 49))).sD (w + 14) (E 5 (c + 1)) (nI (i + 1))).sD (w + 12) (c + 1) (nI (E 5 (c + 1) + 1)) := by rw [hc]; rfl
          rw [← hB6]
          refine Out.pre (hs A4 _ (tkk L i - 49) (nmT g L (i + 1)) hk kd4 (by rw [hc]; exact h48) (by omega) hE' hA4 hB5 hn3 ⟨fun x => ?_, fun t => ?_⟩) exA.rf ?_ (Nat.le_refl _) hn3 (by omega)
          · have npx : p + 89 + E 5 (E 4 0) ≠ p + 191 := by rw [hc]; omega
            rw [hAe4, code_adv hp]
            unfold meA
            rw [rdw (by omega), ntA_Do (by omega), (hx2.2.2.2 (p + 191) x (by have := hA1.1.1.1.len; omega) (decide_eq_false (by omega))).1, code_adv hp]
          · rw [hB6, hBe4, hBe, rdw (by omega), rdw (by omega), rdw (by omega), rdw (by omega), rdw (by omega), rdw (by omega), rdw (by omega), rdw (by omega), rdw (by omega), rdw (by omega), rdw (by omega), rdw (by omega)]
            exact ⟨rfl, rfl⟩
          · rw [hB6]
            exact ((same.rf.sD (by unfold SRd; omega)).sD (by unfold SRd; omega)).sD (by unfold SRd; omega)
  · have z1 : Zf (failB B w 1 (tkp L i)) w 1 (tkp L i) := hb.1.fail (by decide) (by decide)
    have eref : B_Reader_readMember_20 N 8 (p + 70) 8 (nI (tkk L i) - 49) A = some (.inr A.sh.length, refA A 1 (nI (tkp L i))) := by
      unfold B_Reader_readMember_20
      rw [ck_t (rS_8 hG), rf_t (rP_8_0 hG), rf_t (rP_8_0 hG), ck_t (rS_1 hG), bnd_t, ha.1.2.2.2.2.2.1, ck_t (rS_1 hG), ev_refuse hG, bT_z]
    have eB : B_MText_component_127 N w kq (nI c) (nI (E 5 (c + 1))) B = some ((), failB B w 1 (tkp L i)) := by
      unfold B_MText_component_127
      rw [ck_t (TS hb.1.1.1), ev_kind hb.1, if_neg z, bC_v, bC_t (fz_name z1), bnd_t, if_neg z1.n0, fz_c164 z1]
    have hfail : (Out (SD p) (SRd w) w L i A B ((some (.inr A.sh.length, refA A 1 (nI (tkp L i))) : Option (Ot Unit × Hp))) ((some ((), failB B w 1 (tkp L i)) : Option (Unit × Hp))) Post) := Out.noD (k := 1) hb.1 (by decide) (by decide) hi z1 SRd_fail
    rw [decide_eq_false z, if_pos bI_f, eB]
    by_cases y : tkk L i < 49
    · rw [if_pos (k1.mpr y), eref, bT_z]
      exact hfail
    · rw [if_neg (fun q => y (k1.mp q)), if_neg (fun q => by have := (k2 (by omega)).mp q; omega), eref, bT_z]
      exact hfail
end Par
