/-! ===== prefabs: read alike ===== -/
section Par
variable {N p w T : Nat} {L : List (Nat × Nat × Int32 × Bool × Nat)} {g : Nat → Nat} {E : Nat → Nat → Nat} {Nm : Nat → Nat → List Nat} {Pv : Nat → Nat → Int32} {nL lc dp : Nat} {ln : Nat → List Nat} {lk lf : Nat → Nat} {hd : Nat → Int32}
theorem ev_first {kd : Nat} {H : Hp} (hk : kd ≤ 4) : F_M_first N (nI kd) H = some (fstV kd, H) := by
  have e : (nI kd = (4 : Int32)) = (kd = 4) := propext (nI_eq (b := 4) (by omega) (by decide))
  unfold F_M_first fstV
  simp only [e]
  split <;> rfl
/-- behind the members' first values -/
def p148 (N w : Nat) (kq : Int32 → Int32 → Hp → Option (Unit × Hp)) (l1 l3 l5 : Int32) (H : Hp) : Option (Unit × Hp) :=
    bC (F_MText_accepts N w (40 : Int32) H) fun v70 H71 =>
    if v70 = (0 : Int32) then
    B_MText_prefab_206 N w kq l1 l3 H71
    else
    bC (F_MText_values N w l1 l5 H71) fun v82 H83 =>
    B_MText_prefab_206 N w kq l1 l3 H83
theorem ev_148 {f c : Nat} {l3 : Int32} {kq : Int32 → Int32 → Hp → Option (Unit × Hp)} (hC : WU p E) (hf : f < 16) (hc : c < E 4 0) :
    ∀ M m B fu, m + M = E 5 (c + 1) → M < fu → isT B w → B.D (w + 12) (c + 1) = nI (E 5 (c + 1)) → (∀ x, x < E 5 (E 4 0) → B.D (w + 13) x = nI (E 6 x)) → ∃ B', B_MText_prefab_148 N w kq fu (nI f) l3 (nI c) (nI m) B = p148 N w kq (nI f) l3 (nI c) B' ∧ same (fun a y => a = w + 20 ∧ 48 * f + m ≤ y ∧ y < 48 * f + E 5 (c + 1)) B B' ∧ ∀ x, m ≤ x → x < E 5 (c + 1) → B'.D (w + 20) (48 * f + x) = fstV (E 6 x) := by
  have w2 := hC.1.w2
  have hc5 := (w2.2.2.1 c hc).2.2
  have h48 := w2.2.2.2.1
  have h4 := w2.1
  intro M
  induction M with
  | zero =>
    intro m B fu hm hfu hT h12 h13
    obtain ⟨fu, rfl⟩ : ∃ z, fu = z + 1 := ⟨fu - 1, by omega⟩
    refine ⟨B, ?_, same.rf, fun x h1 h2 => absurd h2 (by omega)⟩
    rw [B_MText_prefab_148, ck_t (TS hT), rf_t (TP_18 hT), ar_t (TA_18 hT), nI_1, rdI (show c + 1 < 17 by omega) (by decide), h12, if_pos (show nI (E 5 (c + 1)) ≤ nI m from nI_le (by omega) (by omega))]
    rfl
  | succ M ih =>
    intro m B fu hm hfu hT h12 h13
    obtain ⟨fu, rfl⟩ : ∃ z, fu = z + 1 := ⟨fu - 1, by omega⟩
    have hk6 := w2.2.2.2.2 m (by omega)
    obtain ⟨B', e1, e2, e3⟩ := ih (m + 1) (B.sD (w + 20) (48 * f + m) (fstV (E 6 m))) fu (by omega) (by omega) hT (by rw [rdw (by omega)]; exact h12) (fun x hx => by rw [rdw (by omega)]; exact h13 x hx)
    refine ⟨B', ?_, (same.rf.sD (by omega)).tr (e2.mono (fun a y z => by omega)), fun x h1 h2 => ?_⟩
    · rw [B_MText_prefab_148, ck_t (TS hT), rf_t (TP_18 hT), ar_t (TA_18 hT), nI_1, rdI (show c + 1 < 17 by omega) (by decide), h12, if_neg (show ¬ nI (E 5 (c + 1)) ≤ nI m from nI_ge (by omega) (by omega)), rf_t (TP_28 hT), rf_t (TP_19 hT), ar_t (TA_19 hT), rdI (show m < 48 by omega) (by decide), h13 m (by omega), bC_t (ev_first hk6), ar_t (TA_28 hT), (m48 hf m).2, wrI (show 48 * f + m < 768 by omega) (by decide), nI_1]
      exact e1
    · by_cases z : x = m
      · rw [z, e2.1 _ _ (by omega), rds]
      · exact e3 x (by omega) h2
theorem fz_206 {B : Hp} {k p0 fu : Nat} {a b : Int32} (h : Zf B w k p0) : B_MText_prefab_206 N w (fun l1 l3 H => B_MText_prefab_55 N w (fu + 1) l1 l3 H) a b B = some ((), B) := by
  unfold B_MText_prefab_206
  rw [ck_t (TS h.1), bC_t (fz_takes h)]
  show B_MText_prefab_55 N w (fu + 1) a b B = _
  rw [B_MText_prefab_55, ck_t (TS h.1), bnd_t, if_neg h.n0]
theorem fz_97 {B : Hp} {k p0 f : Nat} {kq : Int32 → Int32 → Hp → Option (Unit × Hp)} {a b : Int32} (hf : f < 16) (h : Zf B w k p0) : B_MText_prefab_97 N w kq (nI f) a b B = some ((), B) := by
  unfold B_MText_prefab_97
  rw [ck_t (TS h.1), rf_t (TP_27 h.1), ar_t (TA_27 h.1), rdI (show f < 16 from hf) (by decide), bC_t (fz_componentOf h), bnd_t, if_neg h.nle]
def paA (N : Nat) (f : Int32) (K : Hp → Option (Ot Unit × Hp)) (A : Hp) : Option (Ot Unit × Hp) :=
    bT (F_Reader_readPart N 8 f A) fun v74 H75 =>
    rf (H75.P 8 0) fun a77 =>
    ck (H75.sh[a77]? = some (1, 0)) <|
    bT (F_Lexer_take N a77 (15 : Int32) H75) fun v81 H82 =>
    K H82
def paB (N w : Nat) (kq : Int32 → Int32 → Hp → Option (Unit × Hp)) (l1 l3 : Int32) (H28 : Hp) : Option (Unit × Hp) :=
    bC (F_MText_name N w H28) fun v31 H32 =>
    bnd ((H32.D w 9)) fun x33 =>
    if x33 = (0 : Int32) then
    if l3 = (8 : Int32) then
    bC (F_MText_fails N w (2 : Int32) v31 H32) fun v157 H158 =>
    B_MText_prefab_97 N w kq l1 l3 v31 H158
    else
    B_MText_prefab_97 N w kq l1 l3 v31 H32
    else
    B_MText_prefab_97 N w kq l1 l3 v31 H32
theorem jo_ppart {A B : Hp} {i cs f fu : Nat} {K : Hp → Option (Ot Unit × Hp)} {Post : Nat → Unit → Hp → Unit → Hp → Prop} (ha : (UA p T L g E Nm Pv i cs A)) (hb : (UB w T L g E Nm Pv i B)) (hC : WU p E) (hN : 7000 ≤ N) (hf : f < E 15 0) (hV : ∀ m, m < E 5 (E 4 0) → A.D (p + 183) (48 * f + m) = Pv f m) (hU : ∀ d m, mOf E d m → ¬ E 16 f / 2 ^ d % 2 = 1 → Pv f m = fstV (E 6 m)) (h8 : pcn 16 (E 16 f) ≤ 8)
    (hs : ∀ A' B' j c Pv', c < E 4 0 → ¬ E 16 f / 2 ^ c % 2 = 1 → pcn 16 (E 16 f) < 8 → (UA p T L g (etE E f c) Nm Pv' j cs A') → (UB w T L g (etE E f c) Nm Pv' j B') → i < j → j < L.length → (∀ m, m < E 5 (E 4 0) → A'.D (p + 183) (48 * f + m) = Pv' f m) → (∀ d m, mOf E d m → ¬ (E 16 f ||| 2 ^ c) / 2 ^ d % 2 = 1 → Pv' f m = fstV (E 6 m)) → (∀ a b, a ≠ f → Pv' a b = Pv a b) → (∀ x, A'.D (p + 191) x = A.D (p + 191) x) → mfr w i B B' → (Out (SD p) (SRd w) w L j A' B' (K A') (B_MText_prefab_55 N w (fu + 1) (nI f) (nI (pcn 16 (E 16 f) + 1)) B') Post)) :
    (Out (SD p) (SRd w) w L i A B (paA N (nI f) K A) (paB N w (fun l1 l3 H => B_MText_prefab_55 N w (fu + 1) l1 l3 H) (nI f) (nI (pcn 16 (E 16 f))) B) Post) := by
  have hG := ha.1.1.1
  have hi := ha.1.2.2.2.2.2.2.1
  have hp := hC.2.1
  have hE := hC.1
  have hlen0 := hG.len
  have h16 : E 15 0 ≤ 16 := hE.w4.1
  have hb16 : E 16 f < 65536 := hE.w4.2 f hf
  have hW := hE.w1.2
  have w56 := hE.w1.1
  have w2 := hE.w2
  unfold paA paB F_Reader_readPart
  rw [ck_t (rS_8 hG), rf_t (rP_8_0 hG), ck_t (rS_1 hG), bnd_t, ha.1.2.2.2.2.2.1, rf_t (rP_8_0 hG), ck_t (rS_1 hG), bT_as]
  refine Out.bind (jo_uname ha.1 hb.1 (by omega)) ?_ ?_
  rotate_left
  · intro y B' k p0 hz
    exact ⟨(), B', by rw [bnd_t, if_neg hz.n0, fz_97 (by omega) hz], hz, same.rf⟩
  intro j v A1 y B1 hij hxa hsb hQ
  obtain ⟨rfl, t2, hn1, rfl, hBe, hl1, hr1, hx1, s, rfl, s1, s2, s3⟩ := hQ
  have hA1 := ha.sl hx1 hC hl1
  have hB1 : (UB w T L g E Nm Pv (i + 1) B1) := by rw [hBe]; exact hb.nx hn1
  have hG1 := hl1.1.1
  have hP1 := hA1.pP hC
  have hV1 : ∀ m, m < E 5 (E 4 0) → A1.D (p + 183) (48 * f + m) = Pv f m := fun m hm => by
    rw [(hx1.2.2.2 (p + 183) (48 * f + m) (by omega) (decide_eq_false (by omega))).1]; exact hV m hm
  rw [on_t, rf_t hA1.2.2.2.2, ck_t (PrS hP1), rf_t (PrP_5 hP1), ar_t (PrA_5 hP1), rdI (show f < 16 by omega) (by decide), (hA1.2.1.2.2.2.1.2 f hf).1, bC_t (ev_bitCount hb16), bnd_t, hB1.1.2.2.2.1, if_pos (show (0 : Int32) = 0 from rfl)]
  by_cases q8 : pcn 16 (E 16 f) = 8
  · have z2 : Zf (failB B1 w 2 (tkp L i)) w 2 (tkp L i) := hB1.1.fail (by decide) (by decide)
    rw [if_neg (show ¬ nI (pcn 16 (E 16 f)) < (8 : Int32) by rw [q8]; decide), rf_t (rP_8_0 hG1), ck_t (rS_1 hG1), ev_refuse hG1, bT_z, bT_z, if_pos (show nI (pcn 16 (E 16 f)) = (8 : Int32) by rw [q8]; rfl), bC_t (show F_MText_fails N w (2 : Int32) (nI i) B1 = _ from ev_fails (k := 2) hB1.1 hi), fz_97 (by omega) z2]
    exact Out.noD (k := 2) hB1.1 (by decide) (by decide) hn1 z2 SRd_fail
  have l8 : pcn 16 (E 16 f) < 8 := by omega
  have eC : F_MText_componentOf N w (nI i) (nI (E 16 f)) (0 : Int32) (65535 : Int32) B1 = _ := ev_compOf (had := E 16 f) (oth := 0) (may := 65535) hB1 hC hi hN hb16 (by decide) (by decide)
  rw [Nat.or_zero] at eC
  have hb19 : B1.D (w + 19) f = nI (E 16 f) := (hB1.2.1.2.2.2.1.2 f hf).1
  rw [if_pos (show nI (pcn 16 (E 16 f)) < (8 : Int32) from nI_lt (b := 8) l8 (by decide)), if_neg (show ¬ nI (pcn 16 (E 16 f)) = (8 : Int32) from fun z => by have := (nI_eq (b := 8) (by omega) (by decide)).mp z; omega)]
  unfold B_Reader_readPart_46 B_MText_prefab_97
  rw [ck_t (rS_8 hG1), ev_known hA1 hC s1 (by omega), ck_t (TS hB1.1.1.1), rf_t (TP_27 hB1.1.1.1), ar_t (TA_27 hB1.1.1.1), rdI (show f < 16 by omega) (by decide), hb19, eC]
  cases hk : fnm (Nm 1) (nmT g L i) (E 0 0) 0 with
  | none =>
    have z4 : Zf (failB B1 w 4 (tkp L i)) w 4 (tkp L i) := hB1.1.fail (by decide) (by decide)
    simp only
    rw [bT_z, bT_z, bC_v, bnd_t, if_neg z4.nle]
    exact Out.noD (k := 4) hB1.1 (by decide) (by decide) hn1 z4 SRd_fail
  | some k =>
    have hkb := fnm_bd _ _ _ hk
    have hw := hW k (by omega)
    obtain ⟨n1, n2, n3, n4⟩ := hA1.2.1.1 k (by omega)
    have hKn := PrK hP1 k (by omega)
    simp only
    rw [bT_v, on_t, ck_t hKn.2, bnd_t, n2]
    by_cases qs : E 2 k = 0
    case neg =>
      have z5 : Zf (failB B1 w 5 (tkp L i)) w 5 (tkp L i) := hB1.1.fail (by decide) (by decide)
      rw [if_neg (show ¬ nI (E 2 k) = (0 : Int32) from fun z => qs ((nI_eq (b := 0) (by omega) (by decide)).mp z)), rf_t (rP_8_0 hG1), ck_t (rS_1 hG1), ev_refuse hG1, bT_z, bT_z, if_neg qs, bC_v, bnd_t, if_neg z5.nle]
      exact Out.noD (k := 5) hB1.1 (by decide) (by decide) hn1 z5 SRd_fail
    have hc : E 3 k < E 4 0 := hw.2.2.1 qs
    rw [if_pos (show nI (E 2 k) = (0 : Int32) by rw [qs]; rfl), if_pos qs]
    unfold B_Reader_readPart_71
    rw [ck_t hKn.2, bnd_t, n3]
    by_cases qb : E 16 f / 2 ^ E 3 k % 2 = 1
    · have z3 : Zf (failB B1 w 3 (tkp L i)) w 3 (tkp L i) := hB1.1.fail (by decide) (by decide)
      rw [if_pos ((nI_bit1 (by omega) (by omega)).mpr qb), ck_t (rS_8 hG1), rf_t (rP_8_0 hG1), ck_t (rS_1 hG1), ev_refuse hG1, bT_z, bT_z, if_pos qb, bC_v, bnd_t, if_neg z3.nle]
      exact Out.noD (k := 3) hB1.1 (by decide) (by decide) hn1 z3 SRd_fail
    have hmay : 65535 / 2 ^ E 3 k % 2 = 1 := by
      have h0 : ∀ x : Fin 16, 65535 / 2 ^ x.val % 2 = 1 := by decide
      exact h0 ⟨E 3 k, hw.2.1⟩
    rw [if_neg (fun z => qb ((nI_bit1 (by omega) (by omega)).mp z)), if_neg qb, if_pos hmay, bC_v]
    have hB2 : (UB w T L g E Nm Pv (i + 1) (B1.sD (w + 7) i (nI (E 3 k)))) := hB1.mn
    generalize hB2e : B1.sD (w + 7) i (nI (E 3 k)) = B2 at hB2
    have hsB2 : same (SRd w) B1 B2 := by rw [← hB2e]; exact same.rf.sD (by unfold SRd; omega)
    -- class
    have hA3 := hA1.part (c := E 3 k) hC hf hV1
    have hE' := etE_W (c := E 3 k) hC hf hc
    have hP3 := hA3.pP hE'
    have hG3 := hA3.1.1.1
    have hV3 : ∀ m, m < E 5 (E 4 0) → (A1.sD (p + 182) f (nI (E 16 f ||| 2 ^ E 3 k))).D (p + 183) (48 * f + m) = Pv f m := fun m hm => by rw [rdw (by omega)]; exact hV1 m hm
    unfold B_Reader_readPart_94
    rw [ck_t (rS_8 hG1), rf_t hA1.2.2.2.2, ck_t (PrS hP1), rf_t (PrP_5 hP1), ck_t hKn.2, bnd_t, n3, ar_t (PrA_5 hP1), nI_shl (show E 3 k < 31 by omega), nI_or, wrI (show f < 16 by omega) (by decide), rf_t (rP_8_0 hG3), ck_t (rS_1 hG3), bnd_t, hA3.1.2.2.2.2.1]
    -- reference
    have hb29 : B2.D (w + 19) f = nI (E 16 f) := (hB2.2.1.2.2.2.1.2 f hf).1
    have hb212 := hB2.2.1.2.1.2.1
    obtain ⟨B4, e1, e2, e3⟩ := ev_148 (N := N) (w := w) (f := f) (c := E 3 k) (l3 := nI (pcn 16 (E 16 f) + 1)) (kq := fun l1 l3 H => B_MText_prefab_55 N w (fu + 1) l1 l3 H) hC (by omega) hc (E 5 (E 3 k + 1) - E 5 (E 3 k)) (E 5 (E 3 k)) (B2.sD (w + 19) f (nI (E 16 f ||| 2 ^ E 3 k))) N (by have := (w2.2.2.1 _ hc).1; omega) (by have := (w2.2.2.1 _ hc).2.1; omega) hB2.1.1.1 (by rw [rdw (by omega)]; exact hb212 _ (by omega)) (fun x hx => by rw [rdw (by omega)]; exact (hB2.2.1.2.1.2.2.1 x hx).2)
    rw [bnd_t (e := B2.D w 9), hB2.1.2.2.2.1, if_pos (show (0 : Int32) ≤ 0 by decide), rf_t (TP_27 hB2.1.1.1), ar_t (TA_27 hB2.1.1.1), rdI (show f < 16 by omega) (by decide), hb29, nI_or, wrI (show f < 16 by omega) (by decide), sD_P, rf_t (TP_18 hB2.1.1.1), ar_sD, ar_t (TA_18 hB2.1.1.1), rdI (show E 3 k < 17 by omega) (by decide), show (B2.sD (w + 19) f (nI (E 16 f ||| 2 ^ E 3 k))).D (w + 12) (E 3 k) = nI (E 5 (E 3 k)) by rw [rdw (by omega)]; exact hb212 _ (by omega), nI_1, e1]
    have hs4 : same (fun a y => (a = w + 19 ∧ y = f) ∨ (a = w + 20 ∧ 48 * f + E 5 (E 3 k) ≤ y ∧ y < 48 * f + E 5 (E 3 k + 1))) B2 B4 := (same.rf.sD (by omega)).tr (e2.mono (fun a y z => by omega))
    have hl4 : LB B4 w L T g (i + 1) := by
      obtain ⟨u1, u2, u3, u4, u5, u6⟩ := hB2.1
      obtain ⟨v1, v2, v3, v4, v5, v6⟩ := u1
      refine ⟨⟨same_isT hs4 v1, by rw [hs4.1 _ _ (by omega)]; exact v2, v3, fun x hx => by rw [hs4.1 _ _ (by omega)]; exact v4 x hx, v5, v6⟩, fun x hx => ?_, by rw [hs4.1 _ _ (by omega)]; exact u3, by rw [hs4.1 _ _ (by omega)]; exact u4, u5, u6⟩
      rw [hs4.1 _ _ (by omega), hs4.1 _ _ (by omega), hs4.1 _ _ (by omega), hs4.1 _ _ (by omega), hs4.1 _ _ (by omega)]
      exact u2 x hx
    have hB4 := hB2.part hC hf hc qb hU hs4 (by rw [e2.1 _ _ (by omega)]; exact rds) (fun m h1 h2 => e3 m h1 h2) hl4
    have hm4 : mfr w i B B4 := fun t ht => by
      rw [hs4.1 _ _ (by omega), hs4.1 _ _ (by omega), ← hB2e, rdf (by omega), rdw (by omega), hBe, rdw (by omega), rdw (by omega)]
      exact ⟨rfl, rfl⟩
    have hcd3 : ∀ x, (A1.sD (p + 182) f (nI (E 16 f ||| 2 ^ E 3 k))).D (p + 191) x = A.D (p + 191) x := fun x => by
      rw [rdw (by omega), (hx1.2.2.2 (p + 191) x (by omega) (decide_eq_false (by omega))).1]
    have e16f : etE E f (E 3 k) 16 f = E 16 f ||| 2 ^ E 3 k := by show (if f = f then _ else _) = _; rw [if_pos rfl]
    have h81 := (hB4.1.2.2.2.2.2.2.2.2.2.1 (i + 1) hn1).2.1
    have k12 : (nI (tkk L (i + 1)) = (12 : Int32)) = (tkk L (i + 1) = 12) := propext (nI_eq (b := 12) (by omega) (by decide))
    generalize hA3e : A1.sD (p + 182) f (nI (E 16 f ||| 2 ^ E 3 k)) = A3 at hA3 hV3 hcd3 hG3 hP3
    have hUn : ∀ Pv' : Nat → Nat → Int32, (∀ a b, (a ≠ f ∨ ¬ mOf E (E 3 k) b) → Pv' a b = Pv a b) → ∀ d m, mOf E d m → ¬ (E 16 f ||| 2 ^ E 3 k) / 2 ^ d % 2 = 1 → Pv' f m = fstV (E 6 m) := by
      intro Pv' hPv d m hm hnb
      have hd : ¬ d = E 3 k := fun z => hnb (bit_or.mpr (Or.inr z))
      have hb0 : ¬ E 16 f / 2 ^ d % 2 = 1 := fun z => hnb (bit_or.mpr (Or.inl z))
      rw [hPv f m (Or.inr (fun z => hd (mOf_uq w2 hm z)))]
      exact hU d m hm hb0
    -- ';' and on
    have fin : ∀ (A5 B5 : Hp) (j : Nat) (Pv' : Nat → Nat → Int32), (UA p T L g (etE E f (E 3 k)) Nm Pv' j cs A5) → (UB w T L g (etE E f (E 3 k)) Nm Pv' j B5) → i < j → (∀ m, m < E 5 (E 4 0) → A5.D (p + 183) (48 * f + m) = Pv' f m) → (∀ a b, (a ≠ f ∨ ¬ mOf E (E 3 k) b) → Pv' a b = Pv a b) → (∀ x, A5.D (p + 191) x = A.D (p + 191) x) → mfr w i B B5 → (Out (SD p) (SRd w) w L j A5 B5 (rf (A5.P 8 0) fun a77 => ck (A5.sh[a77]? = some (1, 0)) <| bT (F_Lexer_take N a77 (15 : Int32) A5) fun v81 H82 => K H82) (B_MText_prefab_206 N w (fun l1 l3 H => B_MText_prefab_55 N w (fu + 1) l1 l3 H) (nI f) (nI (pcn 16 (E 16 f) + 1)) B5) Post) := by
      intro A5 B5 j Pv' hA5 hB5 hij5 hV5 hPv hcd5 hm5
      have hG5 := hA5.1.1.1
      unfold B_MText_prefab_206
      rw [rf_t (rP_8_0 hG5), ck_t (rS_1 hG5), ck_t (TS hB5.1.1.1)]
      refine Out.bind (show _ from jo_utake (k := 15) hA5.1 hB5.1 (by decide) (by decide)) ?_ ?_
      rotate_left
      · intro y B' k p0 hz
        refine ⟨(), B', ?_, hz, same.rf⟩
        show B_MText_prefab_55 N w (fu + 1) (nI f) _ B' = _
        rw [B_MText_prefab_55, ck_t (TS hz.1), bnd_t, if_neg hz.n0]
      intro j6 v6 A6 y6 B6 q1 q2 q3 hQ
      obtain ⟨rfl, t15, hn6, rfl, rfl, hl6, hr6⟩ := hQ
      refine hs _ _ (j + 1) (E 3 k) Pv' hc qb l8 (hA5.adv hE' hn6) (hB5.nx hn6) (by omega) hn6 (fun m hm => ?_) (hUn Pv' hPv) (fun a b hab => hPv a b (Or.inl hab)) (fun x => ?_) (fun t ht => ?_)
      · unfold advA
        rw [rdw (by omega), rdw (by omega), rdw (by omega)]; exact hV5 m hm
      · rw [code_adv hp, hcd5]
      · rw [rdw (by omega), rdw (by omega)]; exact hm5 t ht
    have hx3 : exA (SD p) 0 A1 A3 := by rw [← hA3e]; exact exA.rf.sD (decide_eq_true (by omega))
    have hsB4 : same (SRd w) B1 B4 := hsB2.tr (hs4.mono (fun a y z => by unfold SRd; omega))
    unfold p148
    rw [show (40 : Int32) = nI (tyK 12) from rfl, ev_accepts hB4.1 (by decide)]
    refine Out.pre (i := i + 1) (j := i + 1) (k := 0) (A1 := A3) (B1 := B4) ?_ hx3 hsB4 (Nat.le_refl _) hn1 (by omega)
    by_cases z : tkk L (i + 1) = 12
    · have hn4 := hB4.1.gt (show 2 ≤ tkk L (i + 1) by omega)
      have hA5 := hA3.adv hE' hn4
      have hB5 := hB4.nx hn4
      have n3' : A3.D (p + 2 + k) 2 = nI (E 3 k) := (hA3.2.1.1 k (show k < E 0 0 by omega)).2.2.1
      obtain ⟨N', hN'⟩ : ∃ n, N = n + 1 := ⟨N - 1, by omega⟩
      have eV : F_Reader_readValues N 8 (nI f) (nI (E 3 k)) A3 = vlA N (nI f) (nI (E 3 k)) (fun l3 l4 H => B_Reader_readValues_5 N 8 (nI f) (nI (E 3 k)) N' l3 l4 H) (nI 0) (nI (pcn 8 0)) (advA A3 L (i + 1)) := by
        unfold F_Reader_readValues
        have : B_Reader_readValues_5 N 8 (nI f) (nI (E 3 k)) (N' + 1) 0 0 A3 = vlA N (nI f) (nI (E 3 k)) (fun l3 l4 H => B_Reader_readValues_5 N 8 (nI f) (nI (E 3 k)) N' l3 l4 H) (nI 0) (nI (pcn 8 0)) (advA A3 L (i + 1)) := by
          rw [B_Reader_readValues_5, if_neg (show ¬ (48 : Int32) < 0 by decide), ck_t (rS_8 hG3), rf_t (rP_8_0 hG3), ck_t (rS_1 hG3), bC_t (ev_advance hA3.1 hn4)]
          rfl
        rw [← hN'] at this
        exact this
      rw [if_pos (show nI (tkk L (i + 1)) = (12 : Int32) by rw [k12]; exact z), if_pos z, bC_v, if_neg (show ¬ (1 : Int32) = 0 by decide), bnd_t, n3', eV, bT_as]
      unfold F_MText_values
      have e16c : etE E f (E 3 k) 16 f / 2 ^ E 3 k % 2 = 1 := by rw [e16f]; exact bit_or.mpr (Or.inr rfl)
      refine Out.pre (Out.bind (jo_values (E := etE E f (E 3 k)) hE' hN hf hc e16c 9 Pv 0 (i + 1 + 1) cs _ _ N' N (by decide) (by decide) (by omega) (by omega) hA5 hB5 (fun m hm => ?_)) ?_ ?_) (adv_ex.mono SL_SD (Nat.le_refl _)) (same.rf.sD (by unfold SRd; omega)) (show i + 1 ≤ i + 1 + 1 by omega) hn4 (by omega)
      · unfold advA
        rw [rdw (by omega), rdw (by omega), rdw (by omega)]; exact hV3 m hm
      · rintro j6 v6 A6 y6 B6 q1 q2 q3 ⟨Pv', r1, r2, r3, r4, r5, r6⟩
        rw [bT_v]
        refine fin A6 B6 j6 Pv' r1 r2 (by omega) r4 r5 (fun x => ?_) (fun t ht => ?_)
        · rw [r6.1, code_adv hp, hcd3]
        · rw [(r6.2 t).1, (r6.2 t).2, rdw (by omega), rdw (by omega)]; exact hm4 t ht
      · intro y B' k2 p0 hz
        exact ⟨(), B', fz_206 hz, hz, same.rf⟩
    · rw [if_neg (show ¬ nI (tkk L (i + 1)) = (12 : Int32) by rw [k12]; exact z), if_neg z, bC_v, if_pos (show (0 : Int32) = 0 from rfl), bT_v]
      exact fin A3 B4 (i + 1) Pv hA3 hB4 (by omega) hV3 (fun _ _ _ => rfl) hcd3 hm4
end Par
