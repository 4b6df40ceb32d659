/-! ===== events: read alike ===== -/
section Par
variable {N p w T : Nat} {L : List (Nat × Nat × Int32 × Bool × Nat)} {g : Nat → Nat} {E : Nat → Nat → Nat} {Nm : Nat → Nat → List Nat} {Pv : Nat → Nat → Int32} {nL lc dp : Nat} {ln : Nat → List Nat} {lk lf : Nat → Nat} {hd : Nat → Int32}
theorem fz_e148 {B : Hp} {k p0 : Nat} {kq : Int32 → Int32 → Hp → Option (Unit × Hp)} {a b c : Int32} (h : Zf B w k p0) : B_MText_event_148 N w kq a b c B = some ((), B) := by
  unfold B_MText_event_148
  rw [ck_t (TS h.1), bnd_t, if_neg h.nle]
theorem fz_e112 {B : Hp} {k p0 : Nat} {kq : Int32 → Int32 → Hp → Option (Unit × Hp)} {a : Int32} (h : Zf B w k p0) : B_MText_event_112 N w kq a B = some ((), B) := by
  unfold B_MText_event_112
  rw [ck_t (TS h.1), bC_t (fz_kind h), bC_t (fz_name h), bnd_t, if_neg h.n0, fz_e148 h]
/-- a member, reference -/
def evM (N w : Nat) (kq : Int32 → Int32 → Hp → Option (Unit × Hp)) (l1 : Int32) (H : Hp) : Option (Unit × Hp) :=
    bC (F_MText_isKind N w H) fun v52 H53 =>
    if v52 = (0 : Int32) then
    B_MText_event_112 N w kq l1 H53
    else
    rf (H53.P w 23) fun a163 =>
    ar H53 100 a163 fun n165 =>
    ck (inb l1 n165) <|
    bnd ((H53.D a163 (l1).toNatClampNeg)) fun x168 =>
    if x168 = (4 : Int32) then
    bnd ((H53.D w 11)) fun x170 =>
    bC (F_MText_fails N w (2 : Int32) x170 H53) fun v172 H173 =>
    B_MText_event_112 N w kq l1 H173
    else
    B_MText_event_112 N w kq l1 H53
theorem jo_umem {A B : Hp} {i cs e : Nat} {K : Hp → Option (Ot Unit × Hp)} {kq : Int32 → Int32 → Hp → Option (Unit × Hp)} {Post : Nat → Unit → Hp → Unit → Hp → Prop} (ha : (UA p T L g E Nm Pv i cs A)) (hb : (UB w T L g E Nm Pv i B)) (hC : WU p E) (hN : 7000 ≤ N) (hc : E 9 0 = e + 1)
    (hs : ∀ A' B' kd nm, kd ≤ 4 → E 10 e < 4 → WU p (enE E e kd) → (UA p T L g (enE E e kd) (enN Nm E e nm) Pv (i + 2) cs A') → (UB w T L g (enE E e kd) (enN Nm E e nm) Pv (i + 2) B') → i + 2 < L.length → kep p w A B A' B' → (Out (SD p) (SRd w) w L (i + 2) A' B' (K A') (bC (F_MText_accepts N w (44 : Int32) B') fun v H => kq (nI e) v H) Post)) :
    (Out (SD p) (SRd w) w L i A B (bT (F_Reader_readMember N 8 (p + 138) (4 : Int32) A) fun _ H => K H) (evM N w kq (nI e) B) Post) := by
  have hG := ha.1.1.1
  have hi := ha.1.2.2.2.2.2.2.1
  have hp := hC.2.1
  have hE := hC.1
  have hP := ha.pP hC
  have w3' := hE.w3
  have hat := w3'.at e (by omega)
  obtain ⟨w1, w2, w3, w4⟩ := hE.w3
  obtain ⟨m1, m2, m3⟩ := w3 e (by omega)
  obtain ⟨e1, e2, e3, e4⟩ := ha.2.1.2.2.1
  obtain ⟨f1, f2, f3, f4⟩ := hb.2.1.2.2.1
  have h81 := (hb.1.2.2.2.2.2.2.2.2.2.1 i hi).2.1
  have ck1 : ∀ k : Fin 81, (nI k.val - (49 : Int32) < 0 ↔ k.val < 49) ∧ (49 ≤ k.val → (nI k.val - (49 : Int32) ≤ 4 ↔ k.val ≤ 53)) ∧ (49 ≤ k.val → nI k.val - (49 : Int32) = nI (k.val - 49)) := by decide +kernel
  obtain ⟨k1, k2, k3⟩ := ck1 ⟨tkk L i, by omega⟩
  simp only at k1 k2 k3
  unfold evM F_Reader_readMember
  rw [ck_t (rS_8 hG), rf_t (rP_8_0 hG), ck_t (rS_1 hG), bnd_t, ha.1.2.2.2.2.1, bnd_t, bC_t (ev_isKind hb.1)]
  by_cases z : 49 ≤ tkk L i ∧ tkk L i ≤ 53
  · rw [if_neg (fun q => by have := k1.mp q; omega), if_pos ((k2 z.1).mpr z.2), decide_eq_true z, if_neg bI_t0, rf_t (TP_23 hb.1.1.1), ar_t (TA_23 hb.1.1.1), rdI (show e < 8 by omega) (by decide), f2 e (by omega)]
    unfold B_Reader_readMember_35
    rw [ck_t (PrA_3 hP), bnd_t, e1, hc, nI_m, bnd_t, bC_t (ev_sizeOf (fr := p + 181) (R := 9) (PrA_3 hP) (PeP_2 hP) (PeA_2 hP) (by decide) (by rw [hc] at e1; exact e1) (by omega) (show e < e + 1 by omega) (e2 e (by omega)) (e2 (e + 1) (by omega)) (by omega)), show E 11 (e + 1) - E 11 e = E 10 e by omega]
    by_cases q4 : E 10 e = 4
    · have z2 : Zf (failB B w 2 (tkp L i)) w 2 (tkp L i) := hb.1.fail (by decide) (by decide)
      rw [if_pos (show (4 : Int32) ≤ nI (E 10 e) by rw [q4]; decide), if_pos (show nI (E 10 e) = (4 : Int32) by rw [q4]; rfl)]
      unfold B_Reader_readMember_65
      rw [ck_t (rS_8 hG), rf_t (rP_8_0 hG), rf_t (rP_8_0 hG), ck_t (rS_1 hG), bnd_t, ha.1.2.2.2.2.2.1, ck_t (rS_1 hG), ev_refuse hG, bT_z, bT_z, bnd_t, hb.1.2.2.1, bC_t (show F_MText_fails N w (2 : Int32) (nI i) B = _ from ev_fails (k := 2) hb.1 hi), fz_e112 z2]
      exact Out.noD (k := 2) hb.1 (by decide) (by decide) hi z2 SRd_fail
    · rw [if_neg (show ¬ (4 : Int32) ≤ nI (E 10 e) from nI_ge (b := 4) (by omega) (by decide)), if_neg (show ¬ nI (E 10 e) = (4 : Int32) from fun y => q4 ((nI_eq (b := 4) (by omega) (by decide)).mp y))]
      have etot : F_Shapes_total N (p + 138) A = some (nI (E 11 (e + 1)), A) := by
        unfold F_Shapes_total
        rw [ck_t (PrA_3 hP), rf_t (PeP_2 hP), bnd_t, e1, hc, ar_t (PeA_2 hP), rdI (show e + 1 < 9 by omega) (by decide), e2 (e + 1) (by omega)]
      have hnx := hb.1.gt (show 2 ≤ tkk L i by omega)
      have hA1 := ha.adv hC hnx
      have hB1 := hb.nx hnx
      have hG1 := hA1.1.1.1
      rw [bC_t etot, rf_t (PeP_1 hP), ar_t (PeA_1 hP), show Int32.ofNat 32 = nI 32 from rfl, if_pos (show nI (E 11 (e + 1)) < nI 32 from nI_lt (by omega) (by decide))]
      unfold B_Reader_readMember_80 B_MText_event_112
      rw [ck_t (rS_8 hG), rf_t (rP_8_0 hG), ck_t (rS_1 hG), bC_t (ev_advance ha.1 hnx), rf_t (rP_8_0 hG1), ck_t (rS_1 hG1), bnd_t, hA1.1.2.2.2.2.2.1, rf_t (rP_8_0 hG1), ck_t (rS_1 hG1), ck_t (TS hb.1.1.1), ev_kind hb.1, if_pos z, bC_v, bT_as]
      refine Out.pre (Out.bind (jo_uname hA1.1 hB1.1 (by omega)) ?_ ?_) (adv_ex.mono SL_SD (Nat.le_refl _)) (same.rf.sD (by unfold SRd; omega)) (show i ≤ i + 1 by omega) hnx (by omega)
      rotate_left
      · intro y B' k p0 hz
        exact ⟨(), B', by rw [bnd_t, if_neg hz.n0, fz_e148 hz], hz, same.rf⟩
      intro j v A2 y B2 hij hxa hsb hQ
      obtain ⟨rfl, t2, hn2, rfl, hBe, hl2, hr2, hx2, s, rfl, s1, s2, s3⟩ := hQ
      have hA2 := hA1.sl hx2 hC hl2
      have hB2 : (UB w T L g E Nm Pv (i + 1 + 1) B2) := by rw [hBe]; exact hB1.nx hn2
      have hG2 := hl2.1.1
      have hP2 := hA2.pP hC
      obtain ⟨g1, g2, g3, g4⟩ := hA2.2.1.2.2.1
      obtain ⟨o1, o2, o3, o4⟩ := hB2.2.1.2.2.1
      have fsh : fnm (fun x => Nm 13 (4 * e + (x - E 11 e))) (nmT g L (i + 1)) (E 10 e) (E 11 e) = (fnm (fun x => Nm 13 (4 * e + x)) (nmT g L (i + 1)) (E 10 e) 0).map (E 11 e + ·) := fnm_sh (f := fun x => Nm 13 (4 * e + (x - E 11 e))) (h := fun x => Nm 13 (4 * e + x)) (a := E 11 e) (fun x => by show Nm 13 (4 * e + (E 11 e + x - E 11 e)) = _; rw [Nat.add_sub_cancel_left]) (E 10 e) 0
      have eM : F_Shapes_memberNamed N (p + 138) (nI e) s A2 = some (oNI (fnm (fun x => Nm 13 (4 * e + (x - E 11 e))) (nmT g L (i + 1)) (E 11 (e + 1) - E 11 e) (E 11 e)), A2) := ev_mnamed (m := p + 148) (M := 32) (R := 9) (fr := p + 181) (PrA_3 hP2) (PeP_1 hP2) (PeA_1 hP2) (PeM hP2) (PeP_2 hP2) (PeA_2 hP2) (by decide) (by decide) g1 (by omega) (by omega) (g2 e (by omega)) (g2 (e + 1) (by omega)) (by omega) (by omega) s1 (fun x h1 h2 => by have := (g3 e (x - E 11 e) (by omega) (by omega)).1; rw [show p + 149 + (E 11 e + (x - E 11 e)) = p + 148 + 1 + x by omega] at this; exact this) (by omega)
      rw [show E 11 (e + 1) - E 11 e = E 10 e by omega, fsh] at eM
      have eB : F_MText_eventMemberOf N w (nI e) (nI (i + 1)) B2 = some (oNI (fnm (fun x => Nm 13 (4 * e + x)) (nmT g L (i + 1)) (E 10 e) 0), B2) := ev_emember hB2.1.1.1 (by omega) (o2 e (by omega)) (by omega) (hB2.1.tn (by omega)) (fun x h1 => (o3 e x (by omega) h1).1) hN
      rw [on_t, ck_t (PrA_3 hP2), bC_t eM, bnd_t, hB2.1.2.2.2.1, if_pos rfl, bC_t eB]
      cases hk : fnm (fun x => Nm 13 (4 * e + x)) (nmT g L (i + 1)) (E 10 e) 0 with
      | some m =>
        have hkb := fnm_bd _ _ _ hk
        have z3 : Zf (failB B2 w 3 (tkp L (i + 1))) w 3 (tkp L (i + 1)) := hB2.1.fail (by decide) (by decide)
        rw [show oNI (Option.map (E 11 e + ·) (some m)) = nI (E 11 e + m) from rfl, show oNI (some m) = nI m from rfl, if_neg (nI_pos (by omega)), if_neg (nI_pos (by omega)), rf_t (rP_8_0 hG2), ck_t (rS_1 hG2), ev_refuse hG2, bT_z, bT_z, bC_t (show F_MText_fails N w (3 : Int32) (nI (i + 1)) _ = _ from ev_fails (k := 3) hB2.1 (by omega)), fz_e148 z3]
        exact Out.noD (k := 3) hB2.1 (by decide) (by decide) hn2 z3 SRd_fail
      | none =>
        have kd4 : tkk L i - 49 ≤ 4 := by omega
        have h32 : E 11 (e + 1) < 32 := by omega
        have hM := PeM hP2 (E 11 (e + 1)) h32
        have eAdd : F_Shapes_addMember N (p + 138) s (nI (tkk L i - 49)) A2 = some ((), enA A2 p (E 11 e + E 10 e) (e + 1) s (E 11 (e + 1) - E 11 e) (tkk L i - 49)) := by
          unfold F_Shapes_addMember
          have rP : ∀ f, (ntA A2 (p + 149 + E 11 (e + 1)) s 4 (nI (E 11 (e + 1) - E 11 e)) (nI (tkk L i - 49))).P (p + 138) f = A2.P (p + 138) f := fun f => ntA_Po (Or.inl (by omega))
          rw [ck_t (PrA_3 hP2), rf_t (PeP_2 hP2), bnd_t, g1, hc, ar_t (PeA_2 hP2), rdI (show e + 1 < 9 by omega) (by decide), g2 (e + 1) (by omega), bnd_t, if_neg (show ¬ nI (e + 1) ≤ (0 : Int32) from nI_ge (a := 0) (b := e + 1) (by omega) (by omega)), rf_t (PeP_1 hP2), ar_t (PeA_1 hP2), show Int32.ofNat 32 = nI 32 from rfl, if_neg (show ¬ nI 32 ≤ nI (E 11 (e + 1)) from nI_ge h32 (by decide)), rf_t (PeP_1 hP2), ar_t (PeA_1 hP2), rdP (show E 11 (e + 1) < 32 by omega) (by decide), rf_t hM.1, rf_t (PeP_2 hP2), bnd_t, ar_t (PeA_2 hP2), nI_m, rdI (show e < 9 by omega) (by decide), g2 e (by omega), nI_dif (show E 11 e ≤ E 11 (e + 1) by omega), ck_t hM.2, bC_t (ev_ntell hM.2), rP, rf_t (PeP_2 hP2), bnd_t, ntA_Do (by omega), g1, hc, ar_t (show (ntA A2 (p + 149 + E 11 (e + 1)) s 4 (nI (E 11 (e + 1) - E 11 e)) (nI (tkk L i - 49))).sh[p + 181]? = some (100, 9) from (PeA_2 hP2 : A2.sh[p + 181]? = some (100, 9))), wrI (show e + 1 < 9 by omega) (by decide), nI_1, m2]
          rfl
        have hA3 := hA2.emb (kd := tkk L i - 49) (d := E 11 (e + 1) - E 11 e) hC hc (by omega) s1 s2 s3
        have hx3 : exA (SD p) 0 A2 (enA A2 p (E 11 e + E 10 e) (e + 1) s (E 11 (e + 1) - E 11 e) (tkk L i - 49)) := (ntA_ex (fun y => decide_eq_true (by omega))).sD (decide_eq_true (by omega))
        have hE' := enE_W (kd := tkk L i - 49) hC hc (by omega) kd4
        have hB3 := hB2.emb (kd := tkk L i - 49) hC hc (by omega) (show i + 1 < L.length by omega)
        have ww : B2.D (w + 16) e = nI (E 10 e) := o2 e (by omega)
        have e4q : (4 : Int32) * nI e + nI (E 10 e) = nI (4 * e + E 10 e) := by
          have h0 : ∀ x : Fin 8, (4 : Int32) * nI x.val = nI (4 * x.val) := by decide
          have := h0 ⟨e, by omega⟩
          simp only at this
          rw [this, nI_add]
        rw [show oNI (Option.map (E 11 e + ·) none) = -1 from rfl, show oNI none = -1 from rfl, if_pos (by decide), if_pos (by decide)]
        unfold B_Reader_readMember_126 B_MText_event_148
        rw [ck_t (PrA_3 hP2), k3 z.1, bC_t eAdd, bT_v, ck_t (TS hB2.1.1.1), bnd_t, hB2.1.2.2.2.1, if_pos (by decide), rf_t (TP_24 hB2.1.1.1), rf_t (TP_23 hB2.1.1.1), ar_t (TA_23 hB2.1.1.1), rdI (show e < 8 by omega) (by decide), ww, ar_t (TA_24 hB2.1.1.1), e4q, wrI (show 4 * e + E 10 e < 32 by omega) (by decide), sD_P, rf_t (TP_25 hB2.1.1.1), rf_t (TP_23 hB2.1.1.1), ar_sD, ar_t (TA_23 hB2.1.1.1), rdI (show e < 8 by omega) (by decide), rdw (by omega), ww, ar_sD, ar_t (TA_25 hB2.1.1.1), e4q, wrI (show 4 * e + E 10 e < 32 by omega) (by decide), sD_P, sD_P, rf_t (TP_23 hB2.1.1.1), ar_sD, ar_sD, ar_t (TA_23 hB2.1.1.1), rdI (show e < 8 by omega) (by decide), rdw (by omega), rdw (by omega), ww, nI_1, wrI (show e < 8 by omega) (by decide)]
        refine Out.pre (i := i + 1 + 1) (j := i + 1 + 1) (k := 0) (hs _ _ (tkk L i - 49) (nmT g L (i + 1)) kd4 (by omega) hE' hA3 hB3 hn2 ⟨fun x => ?_, fun t => ?_⟩) hx3 ?_ (Nat.le_refl _) hn2 (by omega)
        · unfold enA
          rw [rdw (by omega), ntA_Do (by omega), (hx2.2.2.2 (p + 191) x (by have := hA1.1.1.1.len; omega) (decide_eq_false (by omega))).1, code_adv hp]
        · rw [hBe, rdw (by omega), rdw (by omega), rdw (by omega), rdw (by omega), rdw (by omega), rdw (by omega), rdw (by omega), rdw (by omega), rdw (by omega), rdw (by omega)]
          exact ⟨rfl, rfl⟩
        · exact ((same.rf.sD (by unfold SRd; omega)).sD (by unfold SRd; omega)).sD (by unfold SRd; omega)
  · have z1 : Zf (failB B w 1 (tkp L i)) w 1 (tkp L i) := hb.1.fail (by decide) (by decide)
    have eref : B_Reader_readMember_20 N 8 (p + 138) 4 (nI (tkk L i) - 49) A = some (.inr A.sh.length, refA A 1 (nI (tkp L i))) := by
      unfold B_Reader_readMember_20
      rw [ck_t (rS_8 hG), rf_t (rP_8_0 hG), rf_t (rP_8_0 hG), ck_t (rS_1 hG), bnd_t, ha.1.2.2.2.2.2.1, ck_t (rS_1 hG), ev_refuse hG, bT_z]
    have eB : B_MText_event_112 N w kq (nI e) B = some ((), failB B w 1 (tkp L i)) := by
      unfold B_MText_event_112
      rw [ck_t (TS hb.1.1.1), ev_kind hb.1, if_neg z, bC_v, bC_t (fz_name z1), bnd_t, if_neg z1.n0, fz_e148 z1]
    have hfail : (Out (SD p) (SRd w) w L i A B ((some (.inr A.sh.length, refA A 1 (nI (tkp L i))) : Option (Ot Unit × Hp))) ((some ((), failB B w 1 (tkp L i)) : Option (Unit × Hp))) Post) := Out.noD (k := 1) hb.1 (by decide) (by decide) hi z1 SRd_fail
    rw [decide_eq_false z, if_pos bI_f, eB]
    by_cases y : tkk L i < 49
    · rw [if_pos (k1.mpr y), eref, bT_z]
      exact hfail
    · rw [if_neg (fun q => y (k1.mp q)), if_neg (fun q => by have := (k2 (by omega)).mp q; omega), eref, bT_z]
      exact hfail
theorem NMQ.ev {nm : List Nat} (h : NMQ E Nm) (hC : WU p E) (hf : fnm (Nm 1) nm (E 0 0) 0 = none) : NMQ (eeE E) (eeN Nm E nm) := h.tell (so := 1) (n := E 9 0) hf hC.1.w1 rfl (fun k => rfl) (fun k => rfl) (fun k => rfl) (.inr ⟨by decide, rfl, fun c => rfl⟩) (.inl ⟨rfl, rfl, rfl, fun c => rfl⟩) (fun c m y => y) (fun m => rfl)
theorem NMQ.en {e kd : Nat} {nm : List Nat} (h : NMQ E Nm) : NMQ (enE E e kd) (enN Nm E e nm) := h
/-- an event ends -/
theorem jo_eEnd {E0 : Nat → Nat → Nat} {Nm0 : Nat → Nat → List Nat} {A0 B0 A B : Hp} {i0 i cs : Nat} (ha : (UA p T L g E Nm Pv i cs A)) (hb : (UB w T L g E Nm Pv i B)) (hC : WU p E) (hX : ExtE E0 E) (h17 : E 17 0 = E0 17 0 ∧ E 26 0 = E0 26 0) (hNQ : NMQ E0 Nm0 → NMQ E Nm) (hi0 : i0 < i) (hkp : kep p w A0 B0 A B) : (Out (SD p) (SRd w) w L i A B (B_Reader_readEvent_96 N 8 A) (B_MText_event_210 N w B) (fun j _ A' _ B' => PU p w T L g E0 Nm0 Pv i0 cs A0 B0 j A' B')) := by
  have hG := ha.1.1.1
  have hp := hC.2.1
  unfold B_Reader_readEvent_96 B_MText_event_210
  rw [ck_t (rS_8 hG), rf_t (rP_8_0 hG), ck_t (rS_1 hG), ck_t (TS hb.1.1.1)]
  refine Out.bind (show _ from jo_utake (k := 13) ha.1 hb.1 (by decide) (by decide)) ?_ ?_
  rotate_left
  · intro y B' k p0 hz
    exact ⟨(), B', by rw [bC_t (fz_takes hz)], hz, same.rf⟩
  intro j v A1 y B1 hij hxa hsb hQ
  obtain ⟨rfl, t13, hn1, rfl, rfl, hl1, hr1⟩ := hQ
  have hA1 := ha.adv hC hn1
  have hB1 := hb.nx hn1
  have hG1 := hA1.1.1.1
  rw [rf_t (rP_8_0 hG1), ck_t (rS_1 hG1)]
  refine Out.bind (show _ from jo_utake (k := 15) hA1.1 hB1.1 (by decide) (by decide)) ?_ ?_
  rotate_left
  · intro y B' k p0 hz
    exact ⟨(), B', rfl, hz, same.rf⟩
  intro j v A2 y B2 hij hxa hsb hQ
  obtain ⟨rfl, t15, hn2, rfl, rfl, hl2, hr2⟩ := hQ
  have hps := pos_ij hb.1 (show i0 ≤ i + 1 + 1 by omega) hn2
  refine Out.ok hn2 ⟨E, Nm, Pv, cs, hA1.adv hC hn2, hB1.nx hn2, hC, hX, fun _ _ _ => rfl, by omega, Nat.le_refl _, by omega, fun x hx => ?_, fun t ht => ?_, hNQ, Or.inl h17⟩
  · rw [code_adv hp, code_adv hp, hkp.1]
  · rw [rdw (by omega), rdw (by omega), rdw (by omega), rdw (by omega)]; exact hkp.2 t
theorem ExtE.en {E0 : Nat → Nat → Nat} {e kd : Nat} (hX : ExtE E0 E) (he : E0 9 0 = e) (h4 : ∀ x, x < E 9 0 → E 10 x ≤ 4) : ExtE E0 (enE E e kd) := by
  obtain ⟨a1, a2, a3, a4, a5, a6, a7, a8, a9, a10, a11, a12⟩ := hX
  have e10 : ∀ x, enE E e kd 10 x = if x = e then E 10 e + 1 else E 10 x := fun x => rfl
  have e11 : ∀ x, enE E e kd 11 x = if x = e + 1 then E 11 e + E 10 e + 1 else E 11 x := fun x => rfl
  have e12 : ∀ m, enE E e kd 12 m = if m = 4 * e + E 10 e then kd else E 12 m := fun m => rfl
  refine ⟨a1, a2, a3, a4, fun x hx => by rw [e11, if_neg (by omega)]; exact a5 x hx, fun x hx => by rw [e10, if_neg (by omega)]; exact a6 x hx, fun x q hx hq => ?_, a8, a9, a10, a11, a12⟩
  have := h4 x (by omega)
  have := a6 x hx
  rw [e12, if_neg (by omega)]; exact a7 x q hx hq
theorem jo_e60 {E0 : Nat → Nat → Nat} {Nm0 : Nat → Nat → List Nat} {A0 B0 : Hp} {i0 cs e : Nat} (hN : 7000 ≤ N) (he0 : E0 9 0 = e) :
    ∀ M (E : Nat → Nat → Nat) (Nm : Nat → Nat → List Nat) t A B i fu fu', t + M = 4 → M + 1 < fu → M + 1 < fu' → (UA p T L g E Nm Pv i cs A) → (UB w T L g E Nm Pv i B) → WU p E → E 9 0 = e + 1 → E 10 e = t + 1 → ExtE E0 E → (E 17 0 = E0 17 0 ∧ E 26 0 = E0 26 0) → (NMQ E0 Nm0 → NMQ E Nm) → i0 < i → kep p w A0 B0 A B →
      (Out (SD p) (SRd w) w L i A B (B_Reader_readEvent_60 N 8 fu (p + 138) (nI t) A) (bC (F_MText_accepts N w (44 : Int32) B) fun v H => B_MText_event_75 N w fu' (nI e) v H) (fun j _ A' _ B' => PU p w T L g E0 Nm0 Pv i0 cs A0 B0 j A' B')) := by
  intro M
  induction M with
  | zero =>
    intro E Nm t A B i fu fu' h1 _ _ ha hb hC hc h10
    have := (hC.1.w3.2.2.1 e (by omega)).1
    omega
  | succ M ihm =>
    intro E Nm t A B i fu fu' htM hfu hfu' ha hb hC hc h10 hX h17 hNQ hi0 hkp
    have hG := ha.1.1.1
    have hi := ha.1.2.2.2.2.2.2.1
    have hp := hC.2.1
    have h81 := (hb.1.2.2.2.2.2.2.2.2.2.1 i hi).2.1
    have k14 : (nI (tkk L i) = (14 : Int32)) = (tkk L i = 14) := propext (nI_eq (b := 14) (by omega) (by decide))
    obtain ⟨fu, rfl⟩ : ∃ z, fu = z + 1 := ⟨fu - 1, by omega⟩
    obtain ⟨fu', rfl⟩ : ∃ z, fu' = z + 1 := ⟨fu' - 1, by omega⟩
    rw [B_Reader_readEvent_60, if_neg (show ¬ (4 : Int32) < nI t from nI_nlt (a := 4) (by omega) (by decide)), ck_t (rS_8 hG), rf_t (rP_8_0 hG), ck_t (rS_1 hG), bnd_t, ha.1.2.2.2.2.1, show (44 : Int32) = nI (tyK 14) from rfl, ev_accepts hb.1 (by decide)]
    by_cases z : tkk L i = 14
    · have hn := hb.1.gt (show 2 ≤ tkk L i by omega)
      have hA1 := ha.adv hC hn
      have hB1 := hb.nx hn
      rw [if_pos (show nI (tkk L i) = (14 : Int32) by rw [k14]; exact z), if_pos z, bC_v, rf_t (rP_8_0 hG), ck_t (rS_1 hG), bC_t (ev_advance ha.1 hn), B_MText_event_75, ck_t (TS hB1.1.1.1), bnd_t, hB1.1.2.2.2.1, if_pos (show (0 : Int32) = 0 from rfl), if_neg (show ¬ (1 : Int32) = 0 by decide)]
      refine Out.pre (jo_umem (K := fun H => B_Reader_readEvent_60 N 8 fu (p + 138) (nI t + 1) H) (kq := fun l1 l3 H => B_MText_event_75 N w fu' l1 l3 H) hA1 hB1 hC hN hc ?_) (adv_ex.mono SL_SD (Nat.le_refl _)) (same.rf.sD (by unfold SRd; omega)) (show i ≤ i + 1 by omega) hn (by omega)
      intro A' B' kd nm hkd h4 hC' hA' hB' hi3 hkp'
      have e10 : ∀ x, enE E e kd 10 x = if x = e then E 10 e + 1 else E 10 x := fun x => rfl
      rw [nI_1]
      refine ihm (enE E e kd) (enN Nm E e nm) (t + 1) A' B' (i + 1 + 2) fu fu' (by omega) (by omega) (by omega) hA' hB' hC' hc (by rw [e10, if_pos rfl, h10]) (hX.en he0 (fun x hx => (hC.1.w3.2.2.1 x hx).1)) h17 (fun y => NMQ.en (hNQ y)) (by omega) ((hkp.tr ⟨fun x => ?_, fun t => ?_⟩).tr hkp')
      · rw [code_adv hp]
      · rw [rdw (by omega), rdw (by omega)]; exact ⟨rfl, rfl⟩
    · rw [if_neg (show ¬ nI (tkk L i) = (14 : Int32) by rw [k14]; exact z), if_neg z, bC_v, B_MText_event_75, ck_t (TS hb.1.1.1), bnd_t, hb.1.2.2.2.1, if_pos (show (0 : Int32) = 0 from rfl), if_pos (show (0 : Int32) = 0 from rfl)]
      exact jo_eEnd ha hb hC hX h17 hNQ hi0 hkp
theorem jo_event {A B : Hp} {i cs : Nat} (ha : (UA p T L g E Nm Pv i cs A)) (hb : (UB w T L g E Nm Pv i B)) (hC : WU p E) (hN : 7000 ≤ N) (q : tkk L i = 41) : (Out (SD p) (SRd w) w L i A B (F_Reader_readEvent N 8 A) (F_MText_event N w B) (fun j _ A' _ B' => PU p w T L g E Nm Pv i cs A B j A' B')) := by
  have hG := ha.1.1.1
  have hP := ha.pP hC
  have hp := hC.2.1
  have hE := hC.1
  unfold F_Reader_readEvent F_MText_event
  rw [ck_t (rS_8 hG), rf_t ha.2.2.2.2, ck_t (PrS hP), rf_t (PrP_3 hP), ck_t (PrA_3 hP), bnd_t, ha.2.1.2.2.1.1, ck_t (TS hb.1.1.1), bnd_t, hb.2.1.2.2.1.1]
  refine Out.bind (show _ from jo_begins (n := E 9 0) (most := 8) ha.1 hb.1 (by omega) hE.w3.1 (by decide)) ?_ ?_
  rotate_left
  · intro y B' k p0 hz
    exact ⟨(), B', by rw [bnd_t, bC_t (fz_told hz), bnd_t, if_neg hz.nle], hz, same.rf⟩
  intro j v A1 y B1 hij hxa hsb hQ
  obtain ⟨rfl, hc16, hn1, rfl, rfl⟩ := hQ
  have hA1 := ha.adv hC hn1
  have hB1 := hb.nx hn1
  have h56 : E 0 0 < 56 := by have := hE.w2.1; have := hE.w4.1; have := hE.w5.1; have := hC.2.2.1; omega
  rw [bnd_t, hA1.2.1.2.2.1.1, bnd_t, hB1.2.1.2.2.1.1]
  refine Out.bind (show _ from jo_declare (so := 1) (n := E 9 0) hA1 hB1 hC hN h56) ?_ ?_
  rotate_left
  · intro y B' k p0 hz
    exact ⟨(), B', by rw [bnd_t, if_neg hz.nle], hz, same.rf⟩
  intro j v A2 y B2 hij hxa hsb hQ
  obtain ⟨rfl, t2, hn2, rfl, hBe, A3, s, rfl, hx3, hA3, s1, s2, s3, hAe, hfr⟩ := hQ
  have hn2' : i + 2 < L.length := hn2
  have hA4 := hA3.evnt hC hc16 s1 s2 s3
  have hB4 := hB1.evnt (i := i + 1) hn2
  have hP3 := hA3.pP hC
  have hE' := eeE_W hC hc16
  have hP2 : isP A2 p := by rw [hAe]; exact LA.pP (h := (hA3.1.ex (((ntA_ex (S := SX p) (fun f => decide_eq_true (by omega))).sD (decide_eq_true (by omega)))) (SX_ok hp) (decide_eq_false (by omega)) (decide_eq_false (by omega)) (decide_eq_false (by omega)) (decide_eq_false (by omega)))) hp
  have r3 : A2.D (p + 138) 3 = nI (E 9 0) := by rw [hAe, rdw (by omega), ntA_Do (by omega)]; exact hA3.2.1.2.2.1.1
  have r5 : A2.D (p + 181) (E 9 0) = nI (E 11 (E 9 0)) := by rw [hAe, rdw (by omega), ntA_Do (by omega)]; exact hA3.2.1.2.2.1.2.1 _ (Nat.le_refl _)
  have eO : F_Shapes_open N (p + 138) s A2 = some ((), evA A3 p (E 0 0) (E 9 0) s (E 11 (E 9 0))) := by
    unfold F_Shapes_open
    have hsh := (PeH hP2 (E 9 0) (by omega))
    have rP : ∀ x f, x ≠ p + 140 + E 9 0 → (ntA A2 (p + 140 + E 9 0) s 0 (nI (E 9 0)) 0).P x f = A2.P x f := fun x f h => ntA_Po (Or.inl h)
    have rA : (ntA A2 (p + 140 + E 9 0) s 0 (nI (E 9 0)) 0).sh[p + 181]? = some (100, 9) := (PeA_2 hP2 : A2.sh[p + 181]? = some (100, 9))
    rw [ck_t (PrA_3 hP2), bnd_t, r3, rf_t (PeP_0 hP2), ar_t (PeA_0 hP2), show Int32.ofNat 8 = nI 8 from rfl, if_neg (show ¬ nI 8 ≤ nI (E 9 0) from nI_ge hc16 (by decide)), rf_t (PeP_0 hP2), bnd_t, ar_t (PeA_0 hP2), rdP (show E 9 0 < 8 by omega) (by decide), rf_t hsh.1, bnd_t, ck_t hsh.2, bC_t (ev_ntell hsh.2), rP _ _ (by omega), rf_t (PeP_2 hP2), bnd_t, ntA_Do (by omega), r3, rf_t (PeP_2 hP2), bnd_t, ar_t rA, rdI (show E 9 0 < 9 by omega) (by decide), ntA_Do (by omega), r5, ar_t rA, nI_1, wrI (show E 9 0 + 1 < 9 by omega) (by decide), bnd_t, rdw (by omega), ntA_Do (by omega), r3, nI_1, bnd_t, hAe]
    rfl
  have hs4 : same (SRd w) B2 (evB (B.sD w 11 (nI (i + 1))) w (i + 1) (E 0 0) (E 9 0)) := by
    rw [hBe]
    exact ((same.rf.sD (by unfold SRd; omega)).sD (by unfold SRd; omega)).sD (by unfold SRd; omega)
  have hx4 : exA (SD p) 0 A2 (evA A3 p (E 0 0) (E 9 0) s (E 11 (E 9 0))) := by
    rw [hAe]
    exact ((ntA_ex (fun y => decide_eq_true (by omega))).sD (decide_eq_true (by omega))).sD (decide_eq_true (by omega))
  have hG4 := hA4.1.1.1
  have hT2 : isT B2 w := by rw [hBe]; exact hB1.1.1.1
  have b9 : B2.D w 9 = 0 := by rw [hBe, rdf (by decide), rdw (by omega), rdw (by omega), rdw (by omega), rdf (by decide)]; exact hB1.1.2.2.2.1
  have b21 : B2.D w 21 = nI (E 9 0) := by rw [hBe, rdf (by decide), rdw (by omega), rdw (by omega), rdw (by omega), rdf (by decide)]; exact hB1.2.1.2.2.1.1
  rw [on_t, bC_t eO, rf_t (rP_8_0 hG4), ck_t (rS_1 hG4), bnd_t, b9, if_pos (show (0 : Int32) ≤ 0 by decide), rf_t (TP_22 hT2), ar_t (TA_22 hT2), wrI (show E 9 0 < 8 by omega) (by decide), sD_P, rf_t (TP_23 hT2), ar_sD, ar_t (TA_23 hT2), wrI (show E 9 0 < 8 by omega) (by decide), bnd_t, rdw (by omega), rdw (by omega), b21, nI_1, bnd_t]
  have hB6 : ((B2.sD (w + 15) (E 9 0) (nI (i + 1))).sD (w + 16) (E 9 0) 0).sD w 21 (nI (E 9 0 + 1)) = evB (B.sD w 11 (nI (i + 1))) w (i + 1) (E 0 0) (E 9 0) := by rw [hBe]; rfl
  rw [hB6]
  refine Out.pre (i := i + 1 + 1) (k := 0) ?_ hx4 hs4 (Nat.le_refl _) hn2 (by omega)
  have fz75 : ∀ v B' k p0, Zf B' w k p0 → ∃ B2, B_MText_event_75 N w N (nI (E 9 0)) v B' = some ((), B2) ∧ Zf B2 w k p0 ∧ same (SRd w) B' B2 := by
    intro v B' k p0 hz
    obtain ⟨n, hn⟩ : ∃ n, N = n + 1 := ⟨N - 1, by omega⟩
    refine ⟨B', ?_, hz, same.rf⟩
    have : B_MText_event_75 N w (n + 1) (nI (E 9 0)) v B' = some ((), B') := by
      rw [B_MText_event_75, ck_t (TS hz.1), bnd_t, if_neg hz.n0]
      unfold B_MText_event_210
      rw [ck_t (TS hz.1), bC_t (fz_takes hz), bC_t (fz_takes hz)]
    rw [← hn] at this
    exact this
  refine Out.bind (show _ from jo_utake (k := 12) hA4.1 hB4.1 (by decide) (by decide)) ?_ ?_
  rotate_left
  · intro y B' k p0 hz
    obtain ⟨B2, z1, z2, z3⟩ := fz75 1 B' k p0 hz
    exact ⟨(), B2, by rw [bC_t (fz_is hz), if_pos rfl]; unfold B_MText_event_74; exact z1, z2, z3⟩
  intro j v A5 y B5 hij hxa hsb hQ
  obtain ⟨rfl, t12, hn3, hAe5, hBe5, hl5, hr5⟩ := hQ
  have hA5 : (UA p T L g (eeE E) (eeN Nm E (nmT g L (i + 1))) Pv (i + 3) cs A5) := by rw [hAe5]; exact hA4.adv hE' hn3
  have hB5 : (UB w T L g (eeE E) (eeN Nm E (nmT g L (i + 1))) Pv (i + 3) B5) := by rw [hBe5]; exact hB4.nx hn3
  have hG5 := hA5.1.1.1
  have hi5 : i + 3 < L.length := hn3
  have h81 := (hB5.1.2.2.2.2.2.2.2.2.2.1 (i + 3) hi5).2.1
  have k13 : (nI (tkk L (i + 3)) = (13 : Int32)) = (tkk L (i + 3) = 13) := propext (nI_eq (b := 13) (by omega) (by decide))
  have hkp : kep p w A B A5 B5 := by
    refine ⟨fun x => ?_, fun t => ?_⟩
    · rw [hAe5, code_adv hp]
      unfold evA
      rw [rdw (by omega), rdw (by omega), ntA_Do (by omega), rdw (by omega), ntA_Do (by omega), (hx3.2.2.2 (p + 191) x (by have := hA1.1.1.1.len; omega) (decide_eq_false (by omega))).1, code_adv hp]
    · rw [hBe5, ← hB6, hBe, rdw (by omega), rdw (by omega), rdw (by omega), rdw (by omega), rdw (by omega), rdw (by omega), rdw (by omega), rdw (by omega), rdw (by omega), rdw (by omega), rdw (by omega), rdw (by omega), rdw (by omega), rdw (by omega), rdw (by omega), rdw (by omega), rdw (by omega), rdw (by omega), rdw (by omega), rdw (by omega)]
      exact ⟨rfl, rfl⟩
  have e10 : ∀ c, eeE E 10 c = if c = E 9 0 then 0 else E 10 c := fun c => rfl
  have hX : ExtE E (eeE E) := by
    have e11 : ∀ c, eeE E 11 c = if c = E 9 0 + 1 then E 11 (E 9 0) else E 11 c := fun c => rfl
    refine ⟨Nat.le_refl _, fun _ _ => rfl, fun _ _ => rfl, ?_, fun x hx => ?_, fun x hx => ?_, fun _ _ _ _ => rfl, Nat.le_refl _, fun _ _ => rfl, Nat.le_refl _, fun _ _ => ⟨rfl, rfl, rfl, rfl, rfl, rfl, rfl, rfl⟩, Nat.le_refl _⟩
    · show E 9 0 ≤ E 9 0 + 1
      omega
    · rw [e11, if_neg (by omega)]
    · rw [e10, if_neg (by omega)]
  rw [rf_t (rP_8_0 hG5), ck_t (rS_1 hG5), bnd_t, hA5.1.2.2.2.2.1, bC_t (show F_MText_is N w (41 : Int32) B5 = some (bI (decide (tkk L (i + 3) = 13)), B5) from ev_is (k := 13) hB5.1 (by decide))]
  obtain ⟨n, hn⟩ : ∃ n, N = n + 1 := ⟨N - 1, by omega⟩
  by_cases z : tkk L (i + 3) = 13
  · rw [if_pos (show nI (tkk L (i + 3)) = (13 : Int32) by rw [k13]; exact z), decide_eq_true z, if_neg bI_t0]
    have e75 : B_MText_event_74 N w (nI (E 9 0)) 0 B5 = B_MText_event_210 N w B5 := by
      unfold B_MText_event_74
      have : B_MText_event_75 N w (n + 1) (nI (E 9 0)) 0 B5 = B_MText_event_210 N w B5 := by
        rw [B_MText_event_75, ck_t (TS hB5.1.1.1), bnd_t, hB5.1.2.2.2.1, if_pos (show (0 : Int32) = 0 from rfl), if_pos (show (0 : Int32) = 0 from rfl)]
      rw [← hn] at this
      exact this
    rw [e75]
    exact jo_eEnd hA5 hB5 hE' hX ⟨rfl, rfl⟩ (fun y => NMQ.ev y hC hfr) (by omega) hkp
  · rw [if_neg (show ¬ nI (tkk L (i + 3)) = (13 : Int32) by rw [k13]; exact z), decide_eq_false z, if_pos bI_f]
    have e75 : B_MText_event_74 N w (nI (E 9 0)) 1 B5 = evM N w (fun l1 l3 H => B_MText_event_75 N w n l1 l3 H) (nI (E 9 0)) B5 := by
      unfold B_MText_event_74
      have : B_MText_event_75 N w (n + 1) (nI (E 9 0)) 1 B5 = evM N w (fun l1 l3 H => B_MText_event_75 N w n l1 l3 H) (nI (E 9 0)) B5 := by
        rw [B_MText_event_75, ck_t (TS hB5.1.1.1), bnd_t, hB5.1.2.2.2.1, if_pos (show (0 : Int32) = 0 from rfl), if_neg (show ¬ (1 : Int32) = 0 by decide)]
        rfl
      rw [← hn] at this
      exact this
    rw [e75]
    refine jo_umem (e := E 9 0) (K := fun H => B_Reader_readEvent_60 N 8 N (p + 138) 0 H) hA5 hB5 hE' hN rfl ?_
    intro A' B' kd nm hkd h4 hC' hA' hB' hi3 hkp'
    have e10' : ∀ x, enE (eeE E) (E 9 0) kd 10 x = if x = E 9 0 then eeE E 10 (E 9 0) + 1 else eeE E 10 x := fun x => rfl
    exact jo_e60 (E0 := E) (Nm0 := Nm) hN rfl 4 (enE (eeE E) (E 9 0) kd) (enN (eeN Nm E (nmT g L (i + 1))) (eeE E) (E 9 0) nm) 0 A' B' (i + 3 + 2) N n rfl (by omega) (by omega) hA' hB' hC' rfl (by rw [e10', if_pos rfl, e10, if_pos rfl]) (hX.en rfl (fun x hx => (hE'.1.w3.2.2.1 x hx).1)) ⟨rfl, rfl⟩ (fun y => NMQ.en (NMQ.ev y hC hfr)) (by omega) (hkp.tr hkp')
end Par
