/-! ===== components: the whole declaration ===== -/
/-- a system that was read -/
def SYf (p w : Nat) (L : List (Nat × Nat × Int32 × Bool × Nat)) (E E' : Nat → Nat → Nat) (i j cs cs' : Nat) (A' B' : Hp) : Prop := (E' 17 0 = E 17 0 ∧ E' 26 0 = E 26 0) ∨ (E' 17 0 = E 17 0 + 1 ∧ (GRP E' ∧ (∀ c, E' 21 (E 17 0) / 2 ^ c % 2 = 1 → ¬ E' 20 (E 17 0) / 2 ^ c % 2 = 1) ∧ ∀ c, E' 20 (E 17 0) / 2 ^ c % 2 = 1 → E' 18 (E 17 0) / 2 ^ c % 2 = 1) ∧ E' 23 (E 17 0) = cs ∧ ∃ e ce lk hd, i < E' 24 (E 17 0) ∧ E' 24 (E 17 0) < e ∧ e ≤ j ∧ ce + 1 = cs' ∧ cs ≤ ce ∧ A'.D (p + 191) ce = 0 ∧ ∀ cd mn nu, Agr p w cs ce (E' 24 (E 17 0)) e A' B' cd mn nu → DS (tyF L) mn nu cd E' 2 0 0 lk hd 0 (E' 24 (E 17 0)) e cs ce 0 lk)
/-- a declaration was read by both -/
def PU (p w T : Nat) (L : List (Nat × Nat × Int32 × Bool × Nat)) (g : Nat → Nat) (E : Nat → Nat → Nat) (Nm : Nat → Nat → List Nat) (Pv : Nat → Nat → Int32) (i cs : Nat) (A B : Hp) (j : Nat) (A' B' : Hp) : Prop :=
  ∃ E' Nm' Pv' cs', (UA p T L g E' Nm' Pv' j cs' A') ∧ (UB w T L g E' Nm' Pv' j B') ∧ WU p E' ∧ ExtE E E' ∧ (∀ f m, f < E 15 0 → Pv' f m = Pv f m) ∧ i < j ∧ cs ≤ cs' ∧ cs' + 2 * tkp L i ≤ cs + 2 * tkp L j ∧ cfr p cs A A' ∧ mfr w i B B' ∧ (NMQ E Nm → NMQ E' Nm') ∧ SYf p w L E E' i j cs cs' A' B'
section Par
variable {N p w T : Nat} {L : List (Nat × Nat × Int32 × Bool × Nat)} {g : Nat → Nat} {E : Nat → Nat → Nat} {Nm : Nat → Nat → List Nat} {Pv : Nat → Nat → Int32} {nL lc dp : Nat} {ln : Nat → List Nat} {lk lf : Nat → Nat} {hd : Nat → Int32}
theorem tkp_le {B : Hp} {j : Nat} (h : LB B w L T g j) : ∀ d a, a + d < L.length → tkp L a + d ≤ tkp L (a + d) := by
  intro d
  induction d with
  | zero => intro a _; exact Nat.le_refl _
  | succ d ih =>
    intro a ha
    have h1 := ih a (by omega)
    have h2 : tkp L (a + d) + 1 ≤ tkp L (a + d + 1) := nx_pos h (by omega)
    show tkp L a + (d + 1) ≤ tkp L (a + d + 1)
    omega
theorem pos_ij {B : Hp} {i j k : Nat} (h : LB B w L T g k) (hij : i ≤ j) (hj : j < L.length) : tkp L i + (j - i) ≤ tkp L j := by
  have := tkp_le h (j - i) i (by omega)
  rw [show i + (j - i) = j by omega] at this
  exact this
theorem jo_c42 {E0 : Nat → Nat → Nat} {Nm0 : Nat → Nat → List Nat} {A0 B0 : Hp} {i0 cs c : Nat} (hN : 7000 ≤ N) (hc0 : E0 4 0 = c) :
    ∀ M (E : Nat → Nat → Nat) (Nm : Nat → Nat → List Nat) n A B i fu fu', n + M = 9 → n ≤ 8 → M < fu → M < fu' → (UA p T L g E Nm Pv i cs A) → (UB w T L g E Nm Pv i B) → WU p E → E 4 0 = c + 1 → (∀ f, f < E 15 0 → E 16 f < 2 ^ c) → E 5 (c + 1) = E 5 c + n → ExtE E0 E → (E 17 0 = E0 17 0 ∧ E 26 0 = E0 26 0) → (NMQ E0 Nm0 → NMQ E Nm) → i0 < i → kep p w A0 B0 A B →
      (Out (SD p) (SRd w) w L i A B (B_Reader_readComponent_42 N 8 fu (p + 70) (nI n) A) (B_MText_component_67 N w fu' (nI c) B) (fun j _ A' _ B' => PU p w T L g E0 Nm0 Pv i0 cs A0 B0 j A' B')) := by
  intro M
  induction M with
  | zero => intro E Nm n A B i fu fu' h1 h2; omega
  | succ M ihm =>
    intro E Nm n A B i fu fu' hnM hn8 hfu hfu' ha hb hC hc hF h5 hX h17 hNQ hi0 hkp
    have hG := ha.1.1.1
    have hi := ha.1.2.2.2.2.2.2.1
    have hp := hC.2.1
    have h81 := (hb.1.2.2.2.2.2.2.2.2.2.1 i hi).2.1
    have k11 : (nI (tkk L i) = (11 : Int32)) = (tkk L i = 11) := propext (nI_eq (b := 11) (by omega) (by decide))
    obtain ⟨fu, rfl⟩ : ∃ z, fu = z + 1 := ⟨fu - 1, by omega⟩
    obtain ⟨fu', rfl⟩ : ∃ z, fu' = z + 1 := ⟨fu' - 1, by omega⟩
    rw [B_Reader_readComponent_42, if_neg (show ¬ (8 : Int32) < nI n from nI_nlt (a := 8) (by omega) (by decide)), ck_t (rS_8 hG), rf_t (rP_8_0 hG), ck_t (rS_1 hG), bnd_t, ha.1.2.2.2.2.1, B_MText_component_67, ck_t (TS hb.1.1.1), bnd_t, hb.1.2.2.2.1, if_pos (show (0 : Int32) = 0 from rfl), show (125 : Int32) = nI (tyK 11) from rfl, ev_accepts hb.1 (by decide)]
    by_cases z : tkk L i = 11
    · have hn := hb.1.gt (show 2 ≤ tkk L i by omega)
      rw [if_pos (show nI (tkk L i) = (11 : Int32) by rw [k11]; exact z), if_pos z, bC_v, if_neg (show ¬ (1 : Int32) = 0 by decide)]
      unfold B_Reader_readComponent_82
      rw [ck_t (rS_8 hG), rf_t (rP_8_0 hG), ck_t (rS_1 hG), show F_Lexer_take N 1 (11 : Int32) A = some (.inl (), advA A L i) from ev_take ha.1 z (by decide), bT_v]
      have hps := pos_ij hb.1 (show i0 ≤ i + 1 by omega) hn
      refine Or.inr ⟨(), _, (), _, i + 1, rfl, rfl, by omega, hn, adv_ex.mono SL_SD (by omega), same.rf.sD (by unfold SRd; omega), E, Nm, Pv, cs, ha.adv hC hn, hb.nx hn, hC, hX, fun _ _ _ => rfl, by omega, Nat.le_refl _, by omega, fun x hx => ?_, fun t ht => ?_, hNQ, Or.inl h17⟩
      · rw [code_adv hp, hkp.1]
      · rw [rdw (by omega), rdw (by omega)]; exact hkp.2 t
    · rw [if_neg (show ¬ nI (tkk L i) = (11 : Int32) by rw [k11]; exact z), if_neg z, bC_v, if_pos (show (0 : Int32) = 0 from rfl)]
      refine (jo_cmem (K := fun H => B_Reader_readComponent_42 N 8 fu (p + 70) (nI n + 1) H) (kq := fun l1 H => B_MText_component_67 N w fu' l1 H) ha hb hC hN hc hF ?_)
      intro A' B' kd nm hfr hkd h48 h8 hC' hA' hB' hi3 hkp'
      have e5 : ∀ x, emE E kd 5 x = if x = E 4 0 then E 5 (E 4 0) + 1 else E 5 x := fun x => rfl
      obtain ⟨a1, a2, a3, a4, a5, a6, a7, a8, a9, a10, a11, a12⟩ := hX
      show (Out (SD p) (SRd w) w L (i + 3) A' B' (B_Reader_readComponent_42 N 8 fu (p + 70) (nI n + 1) A') (B_MText_component_67 N w fu' (nI c) B') _)
      rw [nI_1]
      refine ihm (emE E kd) (emN Nm E nm) (n + 1) A' B' (i + 3) fu fu' (by omega) (by omega) (by omega) (by omega) hA' hB' hC' hc hF ?_ ⟨a1, fun x hx => ?_, fun m hm => ?_, a4, a5, a6, a7, a8, a9, a10, a11, ?_⟩ h17 (fun y => (hNQ y).me hC hc hfr) (by omega) (hkp.tr hkp')
      · rw [e5, e5, if_pos (by omega), if_neg (by omega), hc]; omega
      · rw [e5, if_neg (by omega)]; exact a2 x hx
      · have e6 : emE E kd 6 m = if m = E 5 (E 4 0) then kd else E 6 m := rfl
        rw [e6, if_neg (by omega)]; exact a3 m hm
      · show E0 5 (E0 4 0) ≤ emE E kd 5 (E 4 0)
        rw [e5, if_pos rfl]; omega
theorem jo_component {A B : Hp} {i cs : Nat} (ha : (UA p T L g E Nm Pv i cs A)) (hb : (UB w T L g E Nm Pv i B)) (hC : WU p E) (hN : 7000 ≤ N) (q : tkk L i = 40) : (Out (SD p) (SRd w) w L i A B (F_Reader_readComponent N 8 A) (F_MText_component N w B) (fun j _ A' _ B' => PU p w T L g E Nm Pv i cs A B j A' B')) := by
  have hG := ha.1.1.1
  have hP := ha.pP hC
  have hp := hC.2.1
  have hE := hC.1
  unfold F_Reader_readComponent F_MText_component
  rw [ck_t (rS_8 hG), rf_t ha.2.2.2.2, ck_t (PrS hP), rf_t (PrP_2 hP), ck_t (PrA_2 hP), bnd_t, ha.2.1.2.1.1, ck_t (TS hb.1.1.1), bnd_t, hb.2.1.2.1.1]
  refine Out.bind (show _ from jo_begins (n := E 4 0) (most := 16) ha.1 hb.1 (by omega) hE.w2.1 (by decide)) ?_ ?_
  rotate_left
  · intro y B' k p0 hz
    exact ⟨(), B', by rw [bnd_t, bC_t (fz_told hz), bnd_t, if_neg hz.nle], hz, same.rf⟩
  intro j v A1 y B1 hij hxa hsb hQ
  obtain ⟨rfl, hc16, hn1, rfl, rfl⟩ := hQ
  have hA1 := ha.adv hC hn1
  have hB1 := hb.nx hn1
  have h56 : E 0 0 < 56 := by have := hE.w3.1; have := hE.w4.1; have := hE.w5.1; have := hC.2.2.1; omega
  rw [bnd_t, hA1.2.1.2.1.1, bnd_t, hB1.2.1.2.1.1]
  refine Out.bind (show _ from jo_declare (so := 0) (n := E 4 0) hA1 hB1 hC hN h56) ?_ ?_
  rotate_left
  · intro y B' k p0 hz
    exact ⟨(), B', by rw [bnd_t, if_neg hz.nle], hz, same.rf⟩
  intro j v A2 y B2 hij hxa hsb hQ
  obtain ⟨rfl, t2, hn2, rfl, hBe, A3, s, rfl, hx3, hA3, s1, s2, s3, hAe, hfr⟩ := hQ
  have hn2' : i + 2 < L.length := hn2
  have hA4 := hA3.comp hC hc16 s1 s2 s3
  have hB4 := hB1.comp (i := i + 1) hC hn2
  have hP3 := hA3.pP hC
  have hE' := ecE_W hC hc16
  have hP2 : isP A2 p := by rw [hAe]; exact LA.pP (h := (hA3.1.ex (((ntA_ex (S := SX p) (fun f => decide_eq_true (by omega))).sD (decide_eq_true (by omega)))) (SX_ok hp) (decide_eq_false (by omega)) (decide_eq_false (by omega)) (decide_eq_false (by omega)) (decide_eq_false (by omega)))) hp
  have r3 : A2.D (p + 70) 3 = nI (E 4 0) := by rw [hAe, rdw (by omega), ntA_Do (by omega)]; exact hA3.2.1.2.1.1
  have r5 : A2.D (p + 137) (E 4 0) = nI (E 5 (E 4 0)) := by rw [hAe, rdw (by omega), ntA_Do (by omega)]; exact hA3.2.1.2.1.2.1 _ (Nat.le_refl _)
  have eO : F_Shapes_open N (p + 70) s A2 = some ((), coA A3 p (E 0 0) (E 4 0) s (E 5 (E 4 0))) := by
    unfold F_Shapes_open
    have hsh := (PcH hP2 (E 4 0) (by omega))
    have rP : ∀ x f, x ≠ p + 72 + E 4 0 → (ntA A2 (p + 72 + E 4 0) s 0 (nI (E 4 0)) 0).P x f = A2.P x f := fun x f h => ntA_Po (Or.inl h)
    have rA : (ntA A2 (p + 72 + E 4 0) s 0 (nI (E 4 0)) 0).sh[p + 137]? = some (100, 17) := (PcA_2 hP2 : A2.sh[p + 137]? = some (100, 17))
    rw [ck_t (PrA_2 hP2), bnd_t, r3, rf_t (PcP_0 hP2), ar_t (PcA_0 hP2), show Int32.ofNat 16 = nI 16 from rfl, if_neg (show ¬ nI 16 ≤ nI (E 4 0) from nI_ge hc16 (by decide)), rf_t (PcP_0 hP2), bnd_t, ar_t (PcA_0 hP2), rdP (show E 4 0 < 16 by omega) (by decide), rf_t hsh.1, bnd_t, ck_t hsh.2, bC_t (ev_ntell hsh.2), rP _ _ (by omega), rf_t (PcP_2 hP2), bnd_t, ntA_Do (by omega), r3, rf_t (PcP_2 hP2), bnd_t, ar_t rA, rdI (show E 4 0 < 17 by omega) (by decide), ntA_Do (by omega), r5, ar_t rA, nI_1, wrI (show E 4 0 + 1 < 17 by omega) (by decide), bnd_t, rdw (by omega), ntA_Do (by omega), r3, nI_1, bnd_t, hAe]
    rfl
  have hs4 : same (SRd w) B2 (coB (B.sD w 11 (nI (i + 1))) w (i + 1) (E 0 0) (E 4 0) (E 5 (E 4 0))) := by
    rw [hBe]
    exact ((same.rf.sD (by unfold SRd; omega)).sD (by unfold SRd; omega)).sD (by unfold SRd; omega)
  have hx4 : exA (SD p) 0 A2 (coA A3 p (E 0 0) (E 4 0) s (E 5 (E 4 0))) := by
    rw [hAe]
    exact ((ntA_ex (fun y => decide_eq_true (by omega))).sD (decide_eq_true (by omega))).sD (decide_eq_true (by omega))
  have hG4 := hA4.1.1.1
  have hT2 : isT B2 w := by rw [hBe]; exact hB1.1.1.1
  have b9 : B2.D w 9 = 0 := by rw [hBe, rdf (by decide), rdw (by omega), rdw (by omega), rdw (by omega), rdf (by decide)]; exact hB1.1.2.2.2.1
  have b12 : B2.D (w + 12) (E 4 0) = nI (E 5 (E 4 0)) := by rw [hBe, rdw (by omega), rdw (by omega), rdw (by omega), rdw (by omega), rdw (by omega)]; exact hB1.2.1.2.1.2.1 _ (Nat.le_refl _)
  have b16 : B2.D w 16 = nI (E 4 0) := by rw [hBe, rdf (by decide), rdw (by omega), rdw (by omega), rdw (by omega), rdf (by decide)]; exact hB1.2.1.2.1.1
  rw [on_t, bC_t eO, rf_t (rP_8_0 hG4), ck_t (rS_1 hG4), bnd_t, b9, if_pos (show (0 : Int32) ≤ 0 by decide), rf_t (TP_17 hT2), ar_t (TA_17 hT2), wrI (show E 4 0 < 16 by omega) (by decide), sD_P, rf_t (TP_18 hT2), rf_t (TP_18 hT2), ar_sD, ar_t (TA_18 hT2), rdI (show E 4 0 < 17 by omega) (by decide), rdw (by omega), b12, ar_sD, ar_t (TA_18 hT2), nI_1, wrI (show E 4 0 + 1 < 17 by omega) (by decide), bnd_t, rdw (by omega), rdw (by omega), b16, nI_1, bnd_t]
  have hB6 : ((B2.sD (w + 11) (E 4 0) (nI (i + 1))).sD (w + 12) (E 4 0 + 1) (nI (E 5 (E 4 0)))).sD w 16 (nI (E 4 0 + 1)) = coB (B.sD w 11 (nI (i + 1))) w (i + 1) (E 0 0) (E 4 0) (E 5 (E 4 0)) := by rw [hBe]; rfl
  rw [hB6]
  refine Out.pre (i := i + 1 + 1) (k := 0) ?_ hx4 hs4 (Nat.le_refl _) hn2 (by omega)
  refine Out.bind (show _ from jo_utake (k := 10) hA4.1 hB4.1 (by decide) (by decide)) ?_ ?_
  rotate_left
  · intro y B' k p0 hz
    obtain ⟨n, rfl⟩ : ∃ n, N = n + 1 := ⟨N - 1, by omega⟩
    exact ⟨(), B', by rw [B_MText_component_67, ck_t (TS hz.1), bnd_t, if_neg hz.n0], hz, same.rf⟩
  intro j v A5 y B5 hij hxa hsb hQ
  obtain ⟨rfl, t10, hn3, rfl, rfl, hl5, hr5⟩ := hQ
  refine jo_c42 (E0 := E) (Nm0 := Nm) (c := E 4 0) hN rfl 9 (ecE E) (ecN Nm E (nmT g L (i + 1))) 0 _ _ (i + 3) N N rfl (by omega) (by omega) (by omega) (hA4.adv hE' hn3) (hB4.nx hn3) hE' rfl (fun f hf => hC.2.2.2 f hf) ?_ ⟨?_, fun x hx => ?_, fun m hm => rfl, Nat.le_refl _, fun _ _ => rfl, fun _ _ => rfl, fun _ _ _ _ => rfl, Nat.le_refl _, fun _ _ => rfl, Nat.le_refl _, fun _ _ => ⟨rfl, rfl, rfl, rfl, rfl, rfl, rfl, rfl⟩, ?_⟩ ⟨rfl, rfl⟩ (fun y => NMQ.co y hC hfr) (by omega) ⟨fun x => ?_, fun t => ?_⟩
  · have e5 : ∀ c, ecE E 5 c = if c = E 4 0 + 1 then E 5 (E 4 0) else E 5 c := fun c => rfl
    rw [e5, e5, if_pos rfl, if_neg (by omega)]; rfl
  · show E 4 0 ≤ E 4 0 + 1
    omega
  · have e5 : ∀ c, ecE E 5 c = if c = E 4 0 + 1 then E 5 (E 4 0) else E 5 c := fun c => rfl
    rw [e5, if_neg (by omega)]
  · have e5 : ∀ c, ecE E 5 c = if c = E 4 0 + 1 then E 5 (E 4 0) else E 5 c := fun c => rfl
    show E 5 (E 4 0) ≤ ecE E 5 (E 4 0 + 1)
    rw [e5, if_pos rfl]; omega
  · rw [code_adv hp]
    unfold coA
    rw [rdw (by omega), rdw (by omega), ntA_Do (by omega), rdw (by omega), ntA_Do (by omega), (hx3.2.2.2 (p + 191) x (by have := hA1.1.1.1.len; omega) (decide_eq_false (by omega))).1, code_adv hp]
  · rw [← hB6, hBe, rdw (by omega), rdw (by omega), rdw (by omega), rdw (by omega), rdw (by omega), rdw (by omega), rdw (by omega), rdw (by omega), rdw (by omega), rdw (by omega), rdw (by omega), rdw (by omega), rdw (by omega), rdw (by omega), rdw (by omega), rdw (by omega), rdw (by omega), rdw (by omega), rdw (by omega), rdw (by omega)]
    exact ⟨rfl, rfl⟩
end Par
