/-! ===== prefabs: the whole declaration ===== -/
section Par
variable {N p w T : Nat} {L : List (Nat × Nat × Int32 × Bool × Nat)} {g : Nat → Nat} {E : Nat → Nat → Nat} {Nm : Nat → Nat → List Nat} {Pv : Nat → Nat → Int32} {nL lc dp : Nat} {ln : Nat → List Nat} {lk lf : Nat → Nat} {hd : Nat → Int32}
theorem NMQ.ep {nm : List Nat} (h : NMQ E Nm) (hC : WU p E) (hf : fnm (Nm 1) nm (E 0 0) 0 = none) : NMQ (epE E) (epN Nm E nm) := h.tell (so := 2) (n := E 15 0) hf hC.1.w1 rfl (fun k => rfl) (fun k => rfl) (fun k => rfl) (.inr ⟨by decide, rfl, fun c => rfl⟩) (.inr ⟨by decide, rfl, fun c => rfl⟩) (fun c m y => y) (fun m => rfl)
theorem jo_p105 {E0 : Nat → Nat → Nat} {Nm0 : Nat → Nat → List Nat} {Pv0 : Nat → Nat → Int32} {A0 B0 : Hp} {i0 cs f : Nat} (hN : 7000 ≤ N) (hf0 : E0 15 0 = f) :
    ∀ M (E : Nat → Nat → Nat) (Pv : Nat → Nat → Int32) A B i fu fu', pcn 16 (E 16 f) + M = 9 → pcn 16 (E 16 f) ≤ 8 → M < fu → M + 1 < fu' → (UA p T L g E Nm Pv i cs A) → (UB w T L g E Nm Pv i B) → WU p E → E 15 0 = f + 1 → (∀ m, m < E 5 (E 4 0) → A.D (p + 183) (48 * f + m) = Pv f m) → (∀ d m, mOf E d m → ¬ E 16 f / 2 ^ d % 2 = 1 → Pv f m = fstV (E 6 m)) → (∀ a b, a < f → Pv a b = Pv0 a b) → ExtE E0 E → (E 17 0 = E0 17 0 ∧ E 26 0 = E0 26 0) → (NMQ E0 Nm0 → NMQ E Nm) → i0 < i → (∀ x, A.D (p + 191) x = A0.D (p + 191) x) → mfr w i0 B0 B →
      (Out (SD p) (SRd w) w L i A B (B_Reader_readPrefab_105 N 8 fu (nI f) (nI (pcn 16 (E 16 f))) A) (B_MText_prefab_55 N w fu' (nI f) (nI (pcn 16 (E 16 f))) B) (fun j _ A' _ B' => PU p w T L g E0 Nm0 Pv0 i0 cs A0 B0 j A' B')) := by
  intro M
  induction M with
  | zero => intro E Pv A B i fu fu' h1 h2; omega
  | succ M ihm =>
    intro E Pv A B i fu fu' hnM hn8 hfu hfu' ha hb hC hf hV hU hPv hX h17 hNQ hi0 hcd hmf
    have hG := ha.1.1.1
    have hi := ha.1.2.2.2.2.2.2.1
    have hp := hC.2.1
    have h81 := (hb.1.2.2.2.2.2.2.2.2.2.1 i hi).2.1
    have k11 : (nI (tkk L i) = (11 : Int32)) = (tkk L i = 11) := propext (nI_eq (b := 11) (by omega) (by decide))
    obtain ⟨fu, rfl⟩ : ∃ z, fu = z + 1 := ⟨fu - 1, by omega⟩
    obtain ⟨fu', rfl⟩ : ∃ z, fu' = z + 2 := ⟨fu' - 2, by omega⟩
    rw [B_Reader_readPrefab_105, if_neg (show ¬ (8 : Int32) < nI (pcn 16 (E 16 f)) from nI_nlt (a := 8) (by omega) (by decide)), ck_t (rS_8 hG), rf_t (rP_8_0 hG), ck_t (rS_1 hG), bnd_t, ha.1.2.2.2.2.1, B_MText_prefab_55, ck_t (TS hb.1.1.1), bnd_t, hb.1.2.2.2.1, if_pos (show (0 : Int32) = 0 from rfl), show (125 : Int32) = nI (tyK 11) from rfl, ev_accepts hb.1 (by decide)]
    by_cases z : tkk L i = 11
    · have hn := hb.1.gt (show 2 ≤ tkk L i by omega)
      rw [if_pos (show nI (tkk L i) = (11 : Int32) by rw [k11]; exact z), if_pos z, bC_v, if_neg (show ¬ (1 : Int32) = 0 by decide)]
      unfold B_Reader_readPrefab_143
      rw [ck_t (rS_8 hG), rf_t (rP_8_0 hG), ck_t (rS_1 hG), show F_Lexer_take N 1 (11 : Int32) A = some (.inl (), advA A L i) from ev_take ha.1 z (by decide), bT_v]
      have hps := pos_ij hb.1 (show i0 ≤ i + 1 by omega) hn
      refine Or.inr ⟨(), _, (), _, i + 1, rfl, rfl, by omega, hn, adv_ex.mono SL_SD (by omega), same.rf.sD (by unfold SRd; omega), E, Nm, Pv, cs, ha.adv hC hn, hb.nx hn, hC, hX, fun a b hab => hPv a b (by omega), by omega, Nat.le_refl _, by omega, fun x hx => ?_, fun t ht => ?_, hNQ, Or.inl h17⟩
      · rw [code_adv hp, hcd]
      · rw [rdw (by omega), rdw (by omega)]; exact hmf t ht
    · rw [if_neg (show ¬ nI (tkk L i) = (11 : Int32) by rw [k11]; exact z), if_neg z, bC_v, if_pos (show (0 : Int32) = 0 from rfl)]
      refine jo_ppart (fu := fu') (K := fun H => B_Reader_readPrefab_105 N 8 fu (nI f) (nI (pcn 16 (E 16 f)) + 1) H) ha hb hC hN (by omega) hV hU hn8 ?_
      intro A' B' j c Pv' hc hb0 hl8 hA' hB' hij hj hV' hU' hPv' hcd' hmf'
      have e16f : etE E f c 16 f = E 16 f ||| 2 ^ c := by show (if f = f then _ else _) = _; rw [if_pos rfl]
      have e16 : ∀ x, x ≠ f → etE E f c 16 x = E 16 x := fun x hx => by show (if x = f then _ else _) = _; rw [if_neg hx]
      have hc16 : c < 16 := by have := hC.1.w2.1; omega
      have hpc : pcn 16 (E 16 f ||| 2 ^ c) = pcn 16 (E 16 f) + 1 := pcn_or 16 c _ hc16 (by omega)
      have hE' := etE_W (c := c) hC (show f < E 15 0 by omega) hc
      obtain ⟨a1, a2, a3, a4, a5, a6, a7, a8, a9, a10, a11, a12⟩ := hX
      show (Out (SD p) (SRd w) w L j A' B' (B_Reader_readPrefab_105 N 8 fu (nI f) (nI (pcn 16 (E 16 f)) + 1) A') _ _)
      have ih := ihm (etE E f c) Pv' A' B' j fu (fu' + 1) (by rw [e16f, hpc]; omega) (by rw [e16f, hpc]; omega) (by omega) (by omega) hA' hB' hE' hf hV' (by rw [e16f]; exact hU') (fun a b hab => by rw [hPv' a b (by omega)]; exact hPv a b hab) ⟨a1, a2, a3, a4, a5, a6, a7, a8, fun x hx => by rw [e16 x (by omega)]; exact a9 x hx, a10, a11, a12⟩ h17 hNQ (by omega) (fun x => by rw [hcd', hcd]) (hmf.tr hmf' (by omega))
      rw [e16f, hpc] at ih
      rw [nI_1]
      exact ih
/-- all members are given their first values, class -/
theorem ev_p61 {f : Nat} (hC : WU p E) (hf : f < 16) :
    ∀ M o A fu, o + M = E 5 (E 4 0) → M < fu → Gr A → isP A p → A.P 8 2 = .ref p → (∀ m, m < E 5 (E 4 0) → A.D (p + 89 + m) 3 = nI (E 6 m)) → ∃ A', B_Reader_readPrefab_61 N 8 fu (nI f) (nI (E 5 (E 4 0))) (nI o) A = (rf (A'.P 8 0) fun a43 => ck (A'.sh[a43]? = some (1, 0)) <| bT (F_Lexer_take N a43 (10 : Int32) A') fun v47 H48 => B_Reader_readPrefab_105 N 8 N (nI f) 0 H48) ∧ exA (fun a y => decide (a = p + 183 ∧ 48 * f ≤ y)) 0 A A' ∧ (∀ x, o ≤ x → x < E 5 (E 4 0) → A'.D (p + 183) (48 * f + x) = fstV (E 6 x)) ∧ ∀ y, y < 48 * f + o → A'.D (p + 183) y = A.D (p + 183) y := by
  have w2 := hC.1.w2
  have h48 := w2.2.2.2.1
  have hp := hC.2.1
  intro M
  induction M with
  | zero =>
    intro o A fu hm hfu hG hP h8 hk
    obtain ⟨fu, rfl⟩ : ∃ z, fu = z + 1 := ⟨fu - 1, by omega⟩
    refine ⟨A, ?_, exA.rf, fun x h1 h2 => absurd h2 (by omega), fun y _ => rfl⟩
    rw [B_Reader_readPrefab_61, if_pos (show nI (E 5 (E 4 0)) ≤ nI o from nI_le (by omega) (by omega)), ck_t (rS_8 hG)]
  | succ M ih =>
    intro o A fu hm hfu hG hP h8 hk
    obtain ⟨fu, rfl⟩ : ∃ z, fu = z + 1 := ⟨fu - 1, by omega⟩
    have hk6 := w2.2.2.2.2 o (by omega)
    have hM := PcM hP o (by omega)
    rw [show p + 88 + 1 + o = p + 89 + o by omega] at hM
    have e4 : (nI (E 6 o) = (4 : Int32)) = (E 6 o = 4) := propext (nI_eq (b := 4) (by omega) (by decide))
    have eF : F_Program_firstValue N p (nI o) A = some (fstV (E 6 o), A) := by
      unfold F_Program_firstValue fstV
      rw [ck_t (PrS hP), rf_t (PrP_2 hP), ck_t (PrA_2 hP), rf_t (PcP_1 hP), ar_t (PcA_1 hP), rdP (show o < 48 by omega) (by decide), rf_t hM.1, ck_t hM.2, bnd_t, hk o (by omega)]
      simp only [e4]
      split <;> rfl
    obtain ⟨A', e1, e2, e3, e5⟩ := ih (o + 1) (A.sD (p + 183) (48 * f + o) (fstV (E 6 o))) fu (by omega) (by omega) hG hP h8 (fun m hm' => by rw [rdw (by omega)]; exact hk m hm')
    refine ⟨A', ?_, (exA.rf.sD (decide_eq_true (by omega))).tr e2, fun x h1 h2 => ?_, fun y hy => ?_⟩
    · rw [B_Reader_readPrefab_61, if_neg (show ¬ nI (E 5 (E 4 0)) ≤ nI o from nI_ge (by omega) (by omega)), ck_t (rS_8 hG), rf_t h8, ck_t (PrS hP), rf_t (PrP_6 hP), rf_t h8, ck_t (PrS hP), bC_t eF, ar_t (PrA_6 hP), (m48 hf o).1, wrI (show 48 * f + o < 768 by omega) (by decide), nI_1]
      exact e1
    · by_cases z : x = o
      · rw [z, e5 _ (by omega), rds]
      · exact e3 x (by omega) h2
    · rw [e5 y (by omega), rdf (by omega)]
theorem jo_prefab {A B : Hp} {i cs : Nat} (ha : (UA p T L g E Nm Pv i cs A)) (hb : (UB w T L g E Nm Pv i B)) (hC : WU p E) (hN : 7000 ≤ N) (q : tkk L i = 42) : (Out (SD p) (SRd w) w L i A B (F_Reader_readPrefab N 8 A) (F_MText_prefab N w B) (fun j _ A' _ B' => PU p w T L g E Nm Pv i cs A B j A' B')) := by
  have hG := ha.1.1.1
  have hP := ha.pP hC
  have hp := hC.2.1
  have hE := hC.1
  unfold F_Reader_readPrefab F_MText_prefab
  rw [ck_t (rS_8 hG), rf_t ha.2.2.2.2, ck_t (PrS hP), bnd_t, ha.2.1.2.2.2.1.1, ck_t (TS hb.1.1.1), bnd_t, hb.2.1.2.2.2.1.1]
  refine Out.bind (show _ from jo_begins (n := E 15 0) (most := 16) ha.1 hb.1 (by omega) hE.w4.1 (by decide)) ?_ ?_
  rotate_left
  · intro y B' k p0 hz
    exact ⟨(), B', by rw [bnd_t, bC_t (fz_told hz), bnd_t, if_neg hz.nle], hz, same.rf⟩
  intro j v A1 y B1 hij hxa hsb hQ
  obtain ⟨rfl, hc16, hn1, rfl, rfl⟩ := hQ
  have hA1 := ha.adv hC hn1
  have hB1 := hb.nx hn1
  have hP1 := hA1.pP hC
  have h56 : E 0 0 < 56 := by have := hE.w2.1; have := hE.w3.1; have := hE.w5.1; have := hC.2.2.1; omega
  rw [rf_t hA1.2.2.2.2, ck_t (PrS hP1), bnd_t, hA1.2.1.2.2.2.1.1, bnd_t, hB1.2.1.2.2.2.1.1]
  refine Out.bind (show _ from jo_declare (so := 2) (n := E 15 0) hA1 hB1 hC hN h56) ?_ ?_
  rotate_left
  · intro y B' k p0 hz
    exact ⟨(), B', by rw [bnd_t, if_neg hz.nle], hz, same.rf⟩
  intro j v A2 y B2 hij hxa hsb hQ
  obtain ⟨rfl, t2, hn2, rfl, hBe, A3, s, rfl, hx3, hA3, s1, s2, s3, hAe, hfr⟩ := hQ
  have hn2' : i + 2 < L.length := hn2
  have hlen3 := hA3.1.1.1.len
  have hlenA := hA1.1.1.1.len
  have hP3 := hA3.pP hC
  have hxA2 : exA (SX p) 0 A3 A2 := by
    rw [hAe]
    exact (ntA_ex (fun f => decide_eq_true (by omega))).sD (decide_eq_true (by omega))
  have hG2 : Gr A2 := hxA2.gr hA3.1.1.1 (SX_ok hp).1
  have hP2 : isP A2 p := LA.pP (h := hA3.1.ex hxA2 (SX_ok hp) (decide_eq_false (by omega)) (decide_eq_false (by omega)) (decide_eq_false (by omega)) (decide_eq_false (by omega))) hp
  have h82 : A2.P 8 2 = .ref p := by rw [(hxA2.2.2.2 8 2 (by omega) (decide_eq_false (by omega))).2]; exact hA3.2.2.2.2
  have e70 : ∀ y, A2.D (p + 70) y = A3.D (p + 70) y := fun y => by rw [hAe, rdw (by omega), ntA_Do (by omega)]
  have e137 : ∀ y, A2.D (p + 137) y = A3.D (p + 137) y := fun y => by rw [hAe, rdw (by omega), ntA_Do (by omega)]
  have hpf : (A2.sD p 4 (nI (E 15 0 + 1))).sD (p + 182) (E 15 0) 0 = pfA A3 p (E 0 0) (E 15 0) s := by rw [hAe]; rfl
  have eT : F_Shapes_total N (p + 70) ((A2.sD p 4 (nI (E 15 0 + 1))).sD (p + 182) (E 15 0) 0) = some (nI (E 5 (E 4 0)), (A2.sD p 4 (nI (E 15 0 + 1))).sD (p + 182) (E 15 0) 0) := by
    have w4 := hE.w2.1
    unfold F_Shapes_total
    rw [ck_t (show ((A2.sD p 4 (nI (E 15 0 + 1))).sD (p + 182) (E 15 0) 0).sh[p + 70]? = some (3, 0) from (PrA_2 hP2 : A2.sh[p + 70]? = some (3, 0))), sD_P, sD_P, rf_t (PcP_2 hP2), bnd_t, rdw (by omega), rdw (by omega), e70, hA3.2.1.2.1.1, ar_sD, ar_sD, ar_t (PcA_2 hP2), rdI (show E 4 0 < 17 by omega) (by decide), rdw (by omega), rdw (by omega), e137, hA3.2.1.2.1.2.1 _ (Nat.le_refl _)]
  obtain ⟨A4, f1, f2, f3, f4⟩ := ev_p61 (N := N) hC hc16 (E 5 (E 4 0)) 0 (pfA A3 p (E 0 0) (E 15 0) s) N (by omega) (by have := hE.w2.2.2.2.1; omega) (by rw [← hpf]; exact hG2) (by rw [← hpf]; exact hP2) (by rw [← hpf]; exact h82) (fun m hm => by
    have := hE.w2.2.2.2.1
    unfold pfA
    rw [rdw (by omega), rdw (by omega), rdw (by omega), ntA_Do (by omega)]
    exact (hA3.2.1.2.1.2.2.1 m hm).2)
  have hA4 := hA3.pref hC hc16 s1 s2 s3 f2
  have hB4 := hB1.pref (i := i + 1) hn2
  have hE' := epE_W hC hc16
  have hT2 : isT B2 w := by rw [hBe]; exact hB1.1.1.1
  have b9 : B2.D w 9 = 0 := by rw [hBe, rdf (by decide), rdw (by omega), rdw (by omega), rdw (by omega), rdf (by decide)]; exact hB1.1.2.2.2.1
  have b26 : B2.D w 26 = nI (E 15 0) := by rw [hBe, rdf (by decide), rdw (by omega), rdw (by omega), rdw (by omega), rdf (by decide)]; exact hB1.2.1.2.2.2.1.1
  have hB6 : (B2.sD w 26 (nI (E 15 0 + 1))).sD (w + 19) (E 15 0) 0 = pfB (B.sD w 11 (nI (i + 1))) w (i + 1) (E 0 0) (E 15 0) := by rw [hBe]; rfl
  have hG4 := hA4.1.1.1
  rw [on_t, rf_t h82, ck_t (PrS hP2), nI_1, bnd_t, sD_P, rf_t h82, ck_t (show (A2.sD p 4 (nI (E 15 0 + 1))).sh[p]? = some (4, 0) from (PrS hP2 : A2.sh[p]? = some (4, 0))), rf_t (PrP_5 hP2), ar_sD, ar_t (PrA_5 hP2), wrI (show E 15 0 < 16 by omega) (by decide), sD_P, sD_P, rf_t h82, ck_t (show ((A2.sD p 4 (nI (E 15 0 + 1))).sD (p + 182) (E 15 0) 0).sh[p]? = some (4, 0) from (PrS hP2 : A2.sh[p]? = some (4, 0))), rf_t (PrP_2 hP2), ck_t (show ((A2.sD p 4 (nI (E 15 0 + 1))).sD (p + 182) (E 15 0) 0).sh[p + 70]? = some (3, 0) from (PrA_2 hP2 : A2.sh[p + 70]? = some (3, 0))), bC_t eT, hpf, show B_Reader_readPrefab_61 N 8 N (nI (E 15 0)) (nI (E 5 (E 4 0))) (0 : Int32) (pfA A3 p (E 0 0) (E 15 0) s) = _ from f1, rf_t (rP_8_0 hG4), ck_t (rS_1 hG4), bnd_t, b9, if_pos (show (0 : Int32) ≤ 0 by decide), bnd_t, b26, nI_1, bnd_t, sD_P, rf_t (TP_27 hT2), ar_sD, ar_t (TA_27 hT2), wrI (show E 15 0 < 16 by omega) (by decide), hB6]
  have hs4 : same (SRd w) B2 (pfB (B.sD w 11 (nI (i + 1))) w (i + 1) (E 0 0) (E 15 0)) := by
    rw [← hB6]
    exact (same.rf.sD (by unfold SRd; omega)).sD (by unfold SRd; omega)
  have hx4 : exA (SD p) 0 A2 A4 := by
    refine exA.tr (k := 0) (j := 0) ?_ (f2.mono (fun a f z => decide_eq_false (fun q => by have := of_decide_eq_false z; omega)) (Nat.le_refl _))
    rw [← hpf]
    exact (exA.rf.sD (decide_eq_true (by omega))).sD (decide_eq_true (by omega))
  refine Out.pre (i := i + 1 + 1) (k := 0) ?_ hx4 hs4 (Nat.le_refl _) hn2 (by omega)
  refine Out.bind (show _ from jo_utake (k := 10) hA4.1 hB4.1 (by decide) (by decide)) ?_ ?_
  rotate_left
  · intro y B' k p0 hz
    obtain ⟨n, rfl⟩ : ∃ n, N = n + 1 := ⟨N - 1, by omega⟩
    exact ⟨(), B', by rw [B_MText_prefab_55, ck_t (TS hz.1), bnd_t, if_neg hz.n0], hz, same.rf⟩
  intro j v A5 y B5 hij hxa hsb hQ
  obtain ⟨rfl, t10, hn3, rfl, rfl, hl5, hr5⟩ := hQ
  have e16 : epE E 16 (E 15 0) = 0 := by show (if E 15 0 = E 15 0 then _ else _) = _; rw [if_pos rfl]
  have e16' : ∀ x, x ≠ E 15 0 → epE E 16 x = E 16 x := fun x hx => by show (if x = E 15 0 then 0 else E 16 x) = _; rw [if_neg hx]
  have p0 : pcn 16 0 = 0 := by decide
  have fin := jo_p105 (N := N) (p := p) (w := w) (T := T) (L := L) (g := g) (Nm := epN Nm E (nmT g L (i + 1))) (E0 := E) (Nm0 := Nm) (Pv0 := Pv) (A0 := A) (B0 := B) (i0 := i) (cs := cs) (f := E 15 0) hN rfl 9 (epE E) (epV Pv E) (advA A4 L (i + 1 + 1)) _ (i + 3) N N (by rw [e16, p0]) (by rw [e16, p0]; omega) (by omega) (by omega) (hA4.adv hE' hn3) (hB4.nx hn3) hE' rfl (fun m hm => ?_) (fun d m hm hb => ?_) (fun a b hab => ?_) ⟨Nat.le_refl _, fun _ _ => rfl, fun _ _ => rfl, Nat.le_refl _, fun _ _ => rfl, fun _ _ => rfl, fun _ _ _ _ => rfl, ?_, fun x hx => e16' x (by omega), Nat.le_refl _, fun _ _ => ⟨rfl, rfl, rfl, rfl, rfl, rfl, rfl, rfl⟩, Nat.le_refl _⟩ ⟨rfl, rfl⟩ (fun y => NMQ.ep y hC hfr) (by omega) (fun x => ?_) (fun t ht => ?_)
  · rw [e16, p0] at fin
    exact fin
  · show _ = if E 15 0 = E 15 0 then fstV (E 6 m) else _
    rw [if_pos rfl]
    unfold advA
    rw [rdw (by omega), rdw (by omega), rdw (by omega)]
    exact f3 m (by omega) hm
  · show (if E 15 0 = E 15 0 then fstV (E 6 m) else _) = _
    rw [if_pos rfl]; rfl
  · show (if a = E 15 0 then fstV (E 6 b) else Pv a b) = _
    rw [if_neg (by omega)]
  · show E 15 0 ≤ E 15 0 + 1
    omega
  · have hlenP : 626 ≤ (pfA A3 p (E 0 0) (E 15 0) s).sh.length := hlen3
    rw [code_adv hp, (f2.2.2.2 (p + 191) x (by omega) (decide_eq_false (by omega))).1]
    unfold pfA
    rw [rdw (by omega), rdw (by omega), rdw (by omega), ntA_Do (by omega), (hx3.2.2.2 (p + 191) x (by omega) (decide_eq_false (by omega))).1, code_adv hp]
  · rw [← hB6, hBe, rdw (by omega), rdw (by omega), rdw (by omega), rdw (by omega), rdw (by omega), rdw (by omega), rdw (by omega), rdw (by omega), rdw (by omega), rdw (by omega), rdw (by omega), rdw (by omega), rdw (by omega), rdw (by omega), rdw (by omega), rdw (by omega), rdw (by omega), rdw (by omega)]
    exact ⟨rfl, rfl⟩
end Par
