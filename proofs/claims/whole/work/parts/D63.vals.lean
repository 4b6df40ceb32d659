/-! ===== prefabs: values ===== -/
section Par
variable {N p w T : Nat} {L : List (Nat × Nat × Int32 × Bool × Nat)} {g : Nat → Nat} {E : Nat → Nat → Nat} {Nm : Nat → Nat → List Nat} {Pv : Nat → Nat → Int32} {nL lc dp : Nat} {ln : Nat → List Nat} {lk lf : Nat → Nat} {hd : Nat → Int32}
theorem UB.at {B B' : Hp} {i j : Nat} (h : (UB w T L g E Nm Pv i B)) (hl : LB B' w L T g j) (hs : same (fun a f => a = w ∧ f = 11) B B') : (UB w T L g E Nm Pv j B') := ⟨hl, h.2.1.ex (hs.mono (fun a f z => by unfold SRo; omega)), by rw [hs.1 _ _ (by omega)]; exact h.2.2.1, h.2.2.2⟩
theorem and_p2 {x q : Nat} : (x &&& 2 ^ q = 0) ↔ ¬ x / 2 ^ q % 2 = 1 := by
  rw [bit_tb]
  constructor
  · intro h z
    have : (x &&& 2 ^ q).testBit q = false := by rw [h]; exact Nat.zero_testBit q
    rw [Nat.testBit_and, Nat.testBit_two_pow, z] at this
    simp at this
  · intro h
    apply Nat.eq_of_testBit_eq
    intro j
    rw [Nat.testBit_and, Nat.testBit_two_pow, Nat.zero_testBit]
    by_cases z : q = j
    · subst z
      cases y : x.testBit q
      · rfl
      · exact absurd y h
    · rw [decide_eq_false z, Bool.and_false]
theorem m48 {f : Nat} (hf : f < 16) (m : Nat) : nI f * (48 : Int32) + nI m = nI (48 * f + m) ∧ (48 : Int32) * nI f + nI m = nI (48 * f + m) := by
  have h0 : ∀ x : Fin 16, nI x.val * (48 : Int32) = nI (48 * x.val) ∧ (48 : Int32) * nI x.val = nI (48 * x.val) := by decide
  obtain ⟨h1, h2⟩ := h0 ⟨f, hf⟩
  simp only at h1 h2
  rw [h1, h2, nI_add]
  exact ⟨rfl, rfl⟩
/-- the class, behind the parenthesis or the comma -/
def vlA (N : Nat) (f c : Int32) (kq : Int32 → Int32 → Hp → Option (Ot Unit × Hp)) (l3 l4 : Int32) (H24 : Hp) : Option (Ot Unit × Hp) :=
    rf (H24.P 8 0) fun a25 =>
    ck (H24.sh[a25]? = some (1, 0)) <|
    bnd ((H24.D a25 3)) fun x28 =>
    rf (H24.P 8 2) fun a29 =>
    ck (H24.sh[a29]? = some (4, 0)) <|
    rf (H24.P a29 2) fun a32 =>
    rf (H24.P 8 0) fun a34 =>
    ck (H24.sh[a34]? = some (1, 0)) <|
    bT (F_Lexer_takeName N a34 H24) fun v38 H39 =>
    on v38 fun a41 =>
    ck (H39.sh[a32]? = some (3, 0)) <|
    bC (F_Shapes_memberNamed N a32 c a41 H39) fun v44 H45 =>
    if (0 : Int32) ≤ v44 then
    B_Reader_readValues_63 N 8 f c kq l3 l4 x28 v44 H45
    else
    rf (H45.P 8 0) fun a47 =>
    ck (H45.sh[a47]? = some (1, 0)) <|
    bT (F_Lexer_refuse N a47 (4 : Int32) x28 H45) fun v51 H52 =>
    B_Reader_readValues_63 N 8 f c kq l3 l4 x28 v44 H52
theorem fz_v5 {B : Hp} {k p0 f : Nat} {a b c d : Int32} (h : Zf B w k p0) : B_MText_values_5 N w a b (f + 1) c d B = some ((), B) := by
  rw [B_MText_values_5, ck_t (TS h.1), bnd_t, if_neg h.n0]
  unfold B_MText_values_147
  rw [ck_t (TS h.1), bC_t (fz_takes h)]
theorem fz_v85 {B : Hp} {k p0 : Nat} {kq : Int32 → Int32 → Hp → Option (Unit × Hp)} {a b c d : Int32} (h : Zf B w k p0) : B_MText_values_85 N w a b kq c d B = some ((), B) := by
  unfold B_MText_values_85
  rw [ck_t (TS h.1), bC_t (fz_takes h), bnd_t, if_neg h.nle]
theorem jo_values {f c : Nat} (hC : WU p E) (hN : 7000 ≤ N) (hf : f < E 15 0) (hc : c < E 4 0) (hbit : E 16 f / 2 ^ c % 2 = 1) :
    ∀ M (Pv : Nat → Nat → Int32) told i cs A B fu fu', pcn 8 told + M = 9 → told < 256 → M < fu → M + 1 < fu' → (UA p T L g E Nm Pv i cs A) → (UB w T L g E Nm Pv i B) → (∀ m, m < E 5 (E 4 0) → A.D (p + 183) (48 * f + m) = Pv f m) →
      (Out (SD p) (SRd w) w L i A B (vlA N (nI f) (nI c) (fun l3 l4 H => B_Reader_readValues_5 N 8 (nI f) (nI c) fu l3 l4 H) (nI told) (nI (pcn 8 told)) A) (B_MText_values_5 N w (nI f) (nI c) fu' (nI told) 1 B) (fun j _ A' _ B' => ∃ Pv', (UA p T L g E Nm Pv' j cs A') ∧ (UB w T L g E Nm Pv' j B') ∧ i < j ∧ (∀ m, m < E 5 (E 4 0) → A'.D (p + 183) (48 * f + m) = Pv' f m) ∧ (∀ a b, (a ≠ f ∨ ¬ mOf E c b) → Pv' a b = Pv a b) ∧ kep p w A B A' B')) := by
  have hp := hC.2.1
  have hE := hC.1
  have w2' := hE.w2
  obtain ⟨w1, w2, w3, w4, w5⟩ := hE.w2
  obtain ⟨m1, m2, m3⟩ := w3 c hc
  have h16 : E 15 0 ≤ 16 := hE.w4.1
  intro M
  induction M with
  | zero => intro Pv told i cs A B fu fu' h1; have := pcn_le 8 told; omega
  | succ M ihm =>
    intro Pv told i cs A B fu fu' htM ht8 hfu hfu' ha hb hV
    have hG := ha.1.1.1
    have hi := ha.1.2.2.2.2.2.2.1
    have hP := ha.pP hC
    obtain ⟨fu, rfl⟩ : ∃ z, fu = z + 1 := ⟨fu - 1, by omega⟩
    obtain ⟨fu', rfl⟩ : ∃ z, fu' = z + 2 := ⟨fu' - 2, by omega⟩
    have tn8 := pcn_le 8 told
    rw [B_MText_values_5, ck_t (TS hb.1.1.1), bnd_t, hb.1.2.2.2.1, if_pos (show (0 : Int32) = 0 from rfl), if_neg (show ¬ (1 : Int32) = 0 by decide)]
    unfold vlA
    rw [rf_t (rP_8_0 hG), ck_t (rS_1 hG), bnd_t, ha.1.2.2.2.2.2.1, rf_t ha.2.2.2.2, ck_t (PrS hP), rf_t (PrP_2 hP), rf_t (rP_8_0 hG), ck_t (rS_1 hG)]
    refine Out.bind (jo_uname ha.1 hb.1 (by omega)) ?_ ?_
    rotate_left
    · intro y B' k p0 hz
      refine ⟨(), B', ?_, hz, same.rf⟩
      rw [bnd_t, if_neg hz.n0]
      unfold B_MText_values_42 B_MText_values_73
      rw [if_pos (by decide), if_neg (by decide), ck_t (TS hz.1), bC_t (fz_fails hz), fz_v85 hz]
    intro j v A1 y B1 hij hxa hsb hQ
    obtain ⟨rfl, t2, hn1, rfl, hBe, hl1, hr1, hx1, s, rfl, s1, s2, s3⟩ := hQ
    have hA1 := ha.sl hx1 hC hl1
    have hB1 : (UB w T L g E Nm Pv (i + 1) B1) := by rw [hBe]; exact hb.nx hn1
    have hG1 := hl1.1.1
    have hP1 := hA1.pP hC
    have hV1 : ∀ m, m < E 5 (E 4 0) → A1.D (p + 183) (48 * f + m) = Pv f m := fun m hm => by
      rw [(hx1.2.2.2 (p + 183) (48 * f + m) (by have := hG.len; omega) (decide_eq_false (by omega))).1]; exact hV m hm
    obtain ⟨g1, g2, g3, g4⟩ := hA1.2.1.2.1
    obtain ⟨o1, o2, o3, o4⟩ := hB1.2.1.2.1
    have eM : F_Shapes_memberNamed N (p + 70) (nI c) s A1 = some (oNI (fnm (Nm 7) (nmT g L i) (E 5 (c + 1) - E 5 c) (E 5 c)), A1) := ev_mnamed (m := p + 88) (M := 48) (R := 17) (fr := p + 137) (PrA_2 hP1) (PcP_1 hP1) (PcA_1 hP1) (PcM hP1) (PcP_2 hP1) (PcA_2 hP1) (by decide) (by decide) g1 (by omega) hc (g2 c (by omega)) (g2 (c + 1) (by omega)) m1 (by omega) s1 (fun i h1 h2 => (g3 i (by omega)).1) (by omega)
    have eB : F_MText_member N w (nI c) w (nI i) B1 = some (oNI (fnm (Nm 7) (nmT g L i) (E 5 (c + 1) - E 5 c) (E 5 c)), B1) := ev_member hB1.1.1.1 hB1.1.1.1 (by omega) (o2 c (by omega)) (o2 (c + 1) (by omega)) m1 (by omega) (hB1.1.tn hi) (fun i h1 h2 => (o3 i (by omega)).1) hN
    rw [on_t, ck_t (PrA_2 hP1), bC_t eM, bnd_t, hB1.1.2.2.2.1, if_pos rfl, bC_t eB]
    cases hk : fnm (Nm 7) (nmT g L i) (E 5 (c + 1) - E 5 c) (E 5 c) with
    | none =>
      have z4 : Zf (failB B1 w 4 (tkp L i)) w 4 (tkp L i) := hB1.1.fail (by decide) (by decide)
      unfold B_MText_values_42 B_MText_values_73
      rw [show oNI none = -1 from rfl, if_neg (by decide), rf_t (rP_8_0 hG1), ck_t (rS_1 hG1), ev_refuse hG1, bT_z, if_pos (by decide), if_neg (by decide), ck_t (TS hB1.1.1.1), bC_t (show F_MText_fails N w (4 : Int32) (nI i) B1 = _ from ev_fails (k := 4) hB1.1 hi), fz_v85 z4]
      exact Out.noD (k := 4) hB1.1 (by decide) (by decide) hn1 z4 SRd_fail
    | some m =>
      have hkb := fnm_bd _ _ _ hk
      have hmo : mOf E c m := ⟨hc, by omega, by omega⟩
      have hm48 := mOf_48 w2' hmo
      have hq8 : m - E 5 c < 8 := by omega
      unfold B_MText_values_42 B_Reader_readValues_63
      rw [show oNI (some m) = nI m from rfl, if_pos (nI_pos' (by omega)), if_neg (nI_pos (by omega)), ck_t (rS_8 hG1), rf_t hA1.2.2.2.2, ck_t (PrS hP1), rf_t (PrP_2 hP1), ck_t (PrA_2 hP1), rf_t (PcP_2 hP1), ar_t (PcA_2 hP1), rdI (show c < 17 by omega) (by decide), g2 c (by omega), nI_dif (show E 5 c ≤ m by omega), bnd_t, nI_shl (show m - E 5 c < 31 by omega), nI_and told _ (by omega), ck_t (TS hB1.1.1.1), rf_t (TP_18 hB1.1.1.1), ar_t (TA_18 hB1.1.1.1), rdI (show c < 17 by omega) (by decide), o2 c (by omega), nI_dif (show E 5 c ≤ m by omega)]
      have hand : nI (told &&& 2 ^ (m - E 5 c)) = 0 ↔ ¬ told / 2 ^ (m - E 5 c) % 2 = 1 := by
        rw [← and_p2]
        have : told &&& 2 ^ (m - E 5 c) ≤ told := Nat.and_le_left
        exact nI_eq (b := 0) (by omega) (by decide)
      by_cases qb : told / 2 ^ (m - E 5 c) % 2 = 1
      · have z3 : Zf (failB B1 w 3 (tkp L i)) w 3 (tkp L i) := hB1.1.fail (by decide) (by decide)
        unfold B_MText_values_73
        rw [if_neg (fun z => hand.mp z qb), rf_t (rP_8_0 hG1), ck_t (rS_1 hG1), ev_refuse hG1, bT_z, if_pos ((nI_bit1 (by omega) (by omega)).mpr qb), bC_t (show F_MText_fails N w (3 : Int32) (nI i) B1 = _ from ev_fails (k := 3) hB1.1 hi), if_pos (nI_pos' (by omega)), fz_v85 z3]
        exact Out.noD (k := 3) hB1.1 (by decide) (by decide) hn1 z3 SRd_fail
      · unfold B_MText_values_73 B_MText_values_85 B_Reader_readValues_99
        rw [if_pos (hand.mpr qb), ck_t (rS_8 hG1), rf_t (rP_8_0 hG1), ck_t (rS_1 hG1), if_neg (fun z => qb ((nI_bit1 (by omega) (by omega)).mp z)), if_pos (nI_pos' (by omega)), ck_t (TS hB1.1.1.1)]
        refine Out.bind (show _ from jo_utake (k := 17) hA1.1 hB1.1 (by decide) (by decide)) ?_ ?_
        rotate_left
        · intro y B' k p0 hz
          exact ⟨(), B', by rw [bnd_t, if_neg hz.nle], hz, same.rf⟩
        intro j v A2 y B2 hij2 hxa2 hsb2 hQ
        obtain ⟨rfl, t17, hn2, hAe2, hBe2, hl2, hr2⟩ := hQ
        have hA2 : (UA p T L g E Nm Pv (i + 1 + 1) cs A2) := by rw [hAe2]; exact hA1.adv hC hn2
        have hB2 : (UB w T L g E Nm Pv (i + 1 + 1) B2) := by rw [hBe2]; exact hB1.nx hn2
        have hG2 := hl2.1.1
        have hP2 := hA2.pP hC
        have hk6 : E 6 m ≤ 4 := w5 m hm48.1
        have hM := PcM hP2 m hm48.2
        rw [show p + 88 + 1 + m = p + 89 + m by omega] at hM
        rw [rf_t hA2.2.2.2.2, ck_t (PrS hP2), rf_t (PrP_2 hP2), ck_t (PrA_2 hP2), rf_t (PcP_1 hP2), ar_t (PcA_1 hP2), rdP hm48.2 (by decide), rf_t hM.1, ck_t hM.2, bnd_t, (hA2.2.1.2.1.2.2.1 m hm48.1).2, bnd_t, hB2.1.2.2.2.1, if_pos (show (0 : Int32) ≤ 0 by decide), rf_t (TP_18 hB2.1.1.1), ar_t (TA_18 hB2.1.1.1), rdI (show c < 17 by omega) (by decide), hB2.2.1.2.1.2.1 c (by omega), nI_dif (show E 5 c ≤ m by omega), nI_shl (show m - E 5 c < 31 by omega), nI_or, bnd_t, rf_t (TP_28 hB2.1.1.1), rf_t (TP_19 hB2.1.1.1), ar_t (TA_19 hB2.1.1.1), rdI hm48.2 (by decide), (hB2.2.1.2.1.2.2.1 m hm48.1).2]
        refine Out.bind (jo_const hA2.1 hB2.1 hk6) ?_ ?_
        rotate_left
        · intro y B' k p0 hz
          have z' : Zf (B'.sD (w + 20) (48 * f + m) y) w k p0 := hz.sD (by omega)
          refine ⟨(), _, ?_, z', same.rf.sD (by unfold SRd; omega)⟩
          rw [ar_t (TA_28 hz.1), (m48 (f := f) (by omega) m).2, wrI (show 48 * f + m < 768 by omega) (by decide), bC_t (fz_accepts z')]
          exact fz_v5 z'
        intro j v A3 y B3 hij3 hxa3 hsb3 hQ
        obtain ⟨hlt3, hj3, hl3, hr3, hx3, hs3, rfl, hgd⟩ := hQ
        have hA3 := hA2.sl hx3 hC hl3
        have hB3 := hB2.at hr3 hs3
        have hG3 := hl3.1.1
        have hP3 := hA3.pP hC
        have hA4 := hA3.val (f := f) (m := m) (v := y) hC hm48.2
        have hB4 := hB3.val (f := f) (m := m) (v := y) hC hm48.2 hgd
        have hG4 := hA4.1.1.1
        have hlen2 := hG2.len
        have hlen := hG1.len
        have hlen0 := hG.len
        have h81 := (hB3.1.2.2.2.2.2.2.2.2.2.1 j hj3).2.1
        have k14 : (nI (tkk L j) = (14 : Int32)) = (tkk L j = 14) := propext (nI_eq (b := 14) (by omega) (by decide))
        have hV4 : ∀ x, x < E 5 (E 4 0) → (A3.sD (p + 183) (48 * f + m) y).D (p + 183) (48 * f + x) = pvU Pv f m y f x := fun x hx => by
          show _ = if f = f ∧ x = m then y else Pv f x
          by_cases z : x = m
          · rw [if_pos ⟨rfl, z⟩, z, rds]
          · rw [if_neg (fun q => z q.2), rdf (by omega), (hx3.2.2.2 (p + 183) (48 * f + x) (by omega) (decide_eq_false (by omega))).1, hAe2]
            unfold advA
            rw [rdw (by omega), rdw (by omega), rdw (by omega)]
            exact hV1 x hx
        have hkp4 : kep p w A B (A3.sD (p + 183) (48 * f + m) y) (B3.sD (w + 20) (48 * f + m) y) := by
          refine ⟨fun x => ?_, fun t => ?_⟩
          · rw [rdw (by omega), (hx3.2.2.2 (p + 191) x (by omega) (decide_eq_false (by omega))).1, hAe2, code_adv hp, (hx1.2.2.2 (p + 191) x (by omega) (decide_eq_false (by omega))).1]
          · rw [rdw (by omega), rdw (by omega), hs3.1 _ _ (by omega), hs3.1 _ _ (by omega), hBe2, hBe, rdw (by omega), rdw (by omega), rdw (by omega), rdw (by omega)]
            exact ⟨rfl, rfl⟩
        rw [rf_t hA3.2.2.2.2, ck_t (PrS hP3), rf_t (PrP_6 hP3), ar_t (PrA_6 hP3), (m48 (f := f) (by omega) m).1, wrI (show 48 * f + m < 768 by omega) (by decide), rf_t (rP_8_0 hG4), ck_t (rS_1 hG4), bnd_t, hA4.1.2.2.2.2.1, ar_t (TA_28 hB3.1.1.1), (m48 (f := f) (by omega) m).2, wrI (show 48 * f + m < 768 by omega) (by decide), show (44 : Int32) = nI (tyK 14) from rfl, ev_accepts hB4.1 (by decide)]
        refine Out.pre (i := j) (j := j) (k := 0) (A1 := A3.sD (p + 183) (48 * f + m) y) (B1 := B3.sD (w + 20) (48 * f + m) y) ?_ (exA.rf.sD (decide_eq_true (by omega))) (same.rf.sD (by unfold SRd; omega)) (Nat.le_refl _) hj3 (by omega)
        have hE7 : ∀ a b, (a ≠ f ∨ ¬ mOf E c b) → pvU Pv f m y a b = Pv a b := fun a b hab => by
          show (if a = f ∧ b = m then y else Pv a b) = _
          rw [if_neg (fun q => by rcases hab with z | z; exact z q.1; exact z (by rw [q.2]; exact hmo))]
        by_cases z : tkk L j = 14
        · have hn4 := hB4.1.gt (show 2 ≤ tkk L j by omega)
          have hA5 := hA4.adv hC hn4
          have hB5 := hB4.nx hn4
          have hG5 := hA5.1.1.1
          have hor : pcn 8 (told ||| 2 ^ (m - E 5 c)) = pcn 8 told + 1 := pcn_or 8 (m - E 5 c) told hq8 (by omega)
          have ht2 : told ||| 2 ^ (m - E 5 c) < 256 := Nat.or_lt_two_pow (n := 8) ht8 (Nat.pow_lt_pow_right (m := m - E 5 c) (n := 8) (by decide) hq8)
          rw [if_pos (show nI (tkk L j) = (14 : Int32) by rw [k14]; exact z), if_pos z, bC_v, nI_1, ← hor]
          show (Out (SD p) (SRd w) w L j (A3.sD (p + 183) (48 * f + m) y) (B3.sD (w + 20) (48 * f + m) y) (B_Reader_readValues_5 N 8 (nI f) (nI c) (fu + 1) (nI (told ||| 2 ^ (m - E 5 c))) (nI (pcn 8 (told ||| 2 ^ (m - E 5 c)))) (A3.sD (p + 183) (48 * f + m) y)) (B_MText_values_5 N w (nI f) (nI c) (fu' + 1) (nI (told ||| 2 ^ (m - E 5 c))) 1 ((B3.sD (w + 20) (48 * f + m) y).sD w 11 (nI (j + 1)))) _)
          rw [B_Reader_readValues_5, if_neg (show ¬ (48 : Int32) < nI (pcn 8 (told ||| 2 ^ (m - E 5 c))) from nI_nlt (a := 48) (by omega) (by decide)), ck_t (rS_8 hG4), rf_t (rP_8_0 hG4), ck_t (rS_1 hG4), bC_t (ev_advance hA4.1 hn4)]
          refine Out.pre (Out.wk (ihm (pvU Pv f m y) (told ||| 2 ^ (m - E 5 c)) (j + 1) cs _ _ fu (fu' + 1) (by omega) ht2 (by omega) (by omega) hA5 hB5 (fun x hx => ?_)) ?_) (adv_ex.mono SL_SD (Nat.le_refl _)) (same.rf.sD (by unfold SRd; omega)) (show j ≤ j + 1 by omega) hn4 (by omega)
          · unfold advA
            rw [rdw (by omega), rdw (by omega), rdw (by omega)]; exact hV4 x hx
          · rintro j6 v6 A6 y6 B6 q1 q2 q3 ⟨Pv', r1, r2, r3, r4, r5, r6⟩
            refine ⟨Pv', r1, r2, by omega, r4, fun a b hab => by rw [r5 a b hab, hE7 a b hab], (hkp4.tr ⟨fun x => ?_, fun t => ?_⟩).tr r6⟩
            · rw [code_adv hp]
            · exact ⟨rdw (by omega), rdw (by omega)⟩
        · rw [if_neg (show ¬ nI (tkk L j) = (14 : Int32) by rw [k14]; exact z), if_neg z, bC_v]
          show (Out (SD p) (SRd w) w L j (A3.sD (p + 183) (48 * f + m) y) (B3.sD (w + 20) (48 * f + m) y) _ (B_MText_values_5 N w (nI f) (nI c) (fu' + 1) (nI (told ||| 2 ^ (m - E 5 c))) 0 (B3.sD (w + 20) (48 * f + m) y)) _)
          rw [B_MText_values_5, ck_t (TS hB4.1.1.1), bnd_t, hB4.1.2.2.2.1, if_pos (show (0 : Int32) = 0 from rfl), if_pos (show (0 : Int32) = 0 from rfl)]
          unfold B_Reader_readValues_173 B_MText_values_147
          rw [ck_t (rS_8 hG4), rf_t (rP_8_0 hG4), ck_t (rS_1 hG4), ck_t (TS hB4.1.1.1)]
          refine Out.bind (show _ from jo_utake (k := 13) hA4.1 hB4.1 (by decide) (by decide)) ?_ (fun y B' k p0 hz => ⟨(), B', rfl, hz, same.rf⟩)
          intro j6 v6 A6 y6 B6 q1 q2 q3 hQ
          obtain ⟨rfl, t13, hn6, rfl, rfl, hl6, hr6⟩ := hQ
          refine Out.ok hn6 ⟨pvU Pv f m y, hA4.adv hC hn6, hB4.nx hn6, by omega, fun x hx => ?_, hE7, hkp4.tr ⟨fun x => ?_, fun t => ?_⟩⟩
          · unfold advA
            rw [rdw (by omega), rdw (by omega), rdw (by omega)]; exact hV4 x hx
          · rw [code_adv hp]
          · exact ⟨rdw (by omega), rdw (by omega)⟩
end Par
