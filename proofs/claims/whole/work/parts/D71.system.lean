/-! ===== a system read alike: from its first word ===== -/
section Par
variable {N p w T : Nat} {L : List (Nat × Nat × Int32 × Bool × Nat)} {g : Nat → Nat} {E : Nat → Nat → Nat} {Nm : Nat → Nat → List Nat} {Pv : Nat → Nat → Int32} {nL lc dp : Nat} {ln : Nat → List Nat} {lk lf : Nat → Nat} {hd : Nat → Int32}
/-- the class reads a system -/
def sysA (N : Nat) (A : Hp) : Option (Ot Unit × Hp) := bT (F_Reader_readHead N 8 A) fun _ H => syK N H
def syA (A : Hp) (p K s str : Nat) : Hp := ((ntA A (p + 2 + K) str (nI 3) (nI s) 0).sD p 1 (nI (K + 1))).sD p 7 (nI (s + 1))
def syB (B : Hp) (w i K s : Nat) : Hp := ((((tdB B w i K 3 s).sD w 29 (nI (s + 1))).sD w 37 0).sD w 41 0).sD w 42 0
theorem HH.beg {A0 B0 A B : Hp} {i i0 cs str : Nat} {nm : List Nat} (ha : (UA p T L g E Nm Pv (i + 1) cs A)) (hb : (UB w T L g E Nm Pv i B)) (hC : WU p E) (hs16 : E 17 0 < 16) (hi : i + 1 < L.length) (s1 : strA A str nm) (s2 : 626 ≤ str) (s3 : ∀ b, A.P str 0 = .ref b → 626 ≤ b) (hnm : nm = nmT g L i) (hcf : cfr p cs A0 A) (hmf : mfr w i0 B0 B) (hi0 : i0 + 2 ≤ i + 1) : HH p w T L g E (upN Nm 1 (E 0 0) nm) Pv i0 cs A0 B0 (i + 1) (syA A p (E 0 0) (E 17 0) str) (syB B w i (E 0 0) (E 17 0)) := by
  have hle := ha.1.1.1.len
  have hW1 := esE_W1 hC hs16
  obtain ⟨h1, ⟨a1, a2, a3, a4, a5, a6⟩, h3, h4, h5⟩ := ha
  obtain ⟨g1, ⟨b1, b2, b3, b4, b5⟩, g3, g4⟩ := hb
  have hp := hC.2.1
  have hE := hC.1
  have w56 : E 0 0 + 1 ≤ 56 := hW1.1
  have w2 := hE.w2
  have w3 := hE.w3
  have hx : exA (fun a y => decide (a = p + 2 + E 0 0 ∨ (a = p ∧ (y = 1 ∨ y = 7)))) 0 A (syA A p (E 0 0) (E 17 0) str) := ((ntA_ex (fun y => decide_eq_true (by omega))).sD (decide_eq_true (by omega))).sD (decide_eq_true (by omega))
  have hxS : exA (SX p) 0 A (syA A p (E 0 0) (E 17 0) str) := hx.mono (fun a f z => decide_eq_false (fun q => by have := of_decide_eq_false z; omega)) (Nat.le_refl _)
  have lt : ∀ a y, decide (a = p + 2 + E 0 0 ∨ (a = p ∧ (y = 1 ∨ y = 7))) = true → a < 626 := fun a y z => by
    have := of_decide_eq_true z
    omega
  have d : ∀ a y, a < 626 → ¬ (a = p + 2 + E 0 0 ∨ (a = p ∧ (y = 1 ∨ y = 7))) → (syA A p (E 0 0) (E 17 0) str).D a y = A.D a y := fun a y h6 z => (hx.2.2.2 a y (by omega) (decide_eq_false z)).1
  have nm' : ∀ a n, a < 626 → ¬ (a = p + 2 + E 0 0 ∨ (a = p ∧ (0 = 1 ∨ 0 = 7))) → nmd A a n → nmd (syA A p (E 0 0) (E 17 0) str) a n := fun a n h6 z q => hx.nmd lt (decide_eq_false z) (by omega) q
  have t1 : EA1 ((ntA A (p + 2 + E 0 0) str (nI 3) (nI (E 17 0)) 0).sD p 1 (nI (E 0 0 + 1))) p (esE E) (upN Nm 1 (E 0 0) nm) := EA1.tell (show EA1 A p E Nm from a1) hp (by omega) s1 s2 s3 rfl (fun k => rfl) (fun k => rfl) (fun k => rfl) rfl
  have hsB : same (fun a f => (a = w ∧ (f = 11 ∨ f = 12 ∨ f = 29 ∨ f = 37 ∨ f = 41 ∨ f = 42)) ∨ ((a = w + 8 ∨ a = w + 9 ∨ a = w + 10) ∧ f = E 0 0)) B (syB B w i (E 0 0) (E 17 0)) := ((((tdB_s.mono (fun a f z => by omega)).sD (by omega)).sD (by omega)).sD (by omega)).sD (by omega)
  have hl : ltr w B (syB B w i (E 0 0) (E 17 0)) := by refine ⟨?_, ?_, ?_⟩ <;> (funext f; exact hsB.1 _ _ (by omega))
  have t2 : EB1 (tdB B w i (E 0 0) 3 (E 17 0)) w (esE E) (upN Nm 1 (E 0 0) nm) := EB1.tell (show EB1 B w E Nm from b1) g1 (by omega) rfl (fun k => rfl) (fun k => rfl) (fun k => by rw [hnm]; rfl)
  refine ⟨⟨h1.ex hxS (SX_ok hp) (decide_eq_false (by omega)) (decide_eq_false (by omega)) (decide_eq_false (by omega)) (decide_eq_false (by omega)), ?_, ?_, ?_⟩, ⟨((((tdB_LB g1 hi).sD (by omega)).sD (by omega)).sD (by omega)).sD (by omega), ?_, ?_⟩, ⟨?_, ?_, ?_, ?_, ?_, ?_, ?_⟩, ⟨?_, ?_, ?_, ?_, ?_, ?_, ?_⟩, fun x hx' => ?_, fun t ht => ?_, hi0⟩
  · refine EA1.fr t1 (fun a f z1 z2 => ?_) (fun a n z1 z2 z3 => ?_)
    · unfold syA; rw [rdw (by omega)]
    · unfold syA; exact z3.sD (by omega)
  · show (syA A p (E 0 0) (E 17 0) str).D p 1 = nI (E 0 0 + 1)
    unfold syA; rw [rdf (by decide), rds]
  · rw [(hx.2.2.2 8 2 (by omega) (decide_eq_false (by omega))).2]; exact h5
  · refine EB1.fr t2 ⟨?_, ?_, ?_⟩ (fun a f z => ?_)
    · unfold syB; funext f; rw [rdw (by omega), rdw (by omega), rdw (by omega), rdw (by omega)]
    · unfold syB; funext f; rw [rdw (by omega), rdw (by omega), rdw (by omega), rdw (by omega)]
    · unfold syB; funext f; rw [rdw (by omega), rdw (by omega), rdw (by omega), rdw (by omega)]
    · unfold syB
      by_cases z2 : a = w
      · subst z2; rw [rdf (by omega), rdf (by omega), rdf (by omega), rdf (by omega)]
      · rw [rdw (by omega), rdw (by omega), rdw (by omega), rdw (by omega)]
  · unfold syB; rw [rdf (by decide), rdf (by decide), rds]
  · exact EA2.fr (E := E) (Nm := Nm) a2 hE (fun a f z => d a f (by omega) (by omega)) (fun a n z1 z2 z3 => nm' a n (by omega) (by omega) z3)
  · exact EA3.fr (E := E) (Nm := Nm) a3 hE (fun a f z => d a f (by omega) (by omega)) (fun a n z1 z2 z3 => nm' a n (by omega) (by omega) z3)
  · exact EA4.fr (E := E) (Pv := Pv) a4 (fun a f z => d a f (by omega) (by omega))
  · intro s hs
    rw [d _ _ (by omega) (by omega), d _ _ (by omega) (by omega), d _ _ (by omega) (by omega), d _ _ (by omega) (by omega), d _ _ (by omega) (by omega), d _ _ (by omega) (by omega), d _ _ (by omega) (by omega)]
    exact a5.2 s hs
  · exact rds
  · rw [d _ _ (by omega) (by omega)]; exact a6
  · rw [d _ _ (by omega) (by omega)]; exact h4
  · exact EB2.fr (E := E) (Nm := Nm) b2 hl (fun a f z => hsB.1 _ _ (by omega))
  · exact EB3.fr (E := E) (Nm := Nm) b3 hl (fun a f z => hsB.1 _ _ (by omega))
  · exact EB4.fr (E := E) (Pv := Pv) b4 (fun a f z => hsB.1 _ _ (by omega))
  · intro s hs
    rw [hsB.1 _ _ (by omega), hsB.1 _ _ (by omega), hsB.1 _ _ (by omega), hsB.1 _ _ (by omega), hsB.1 _ _ (by omega), hsB.1 _ _ (by omega)]
    exact b5.2 s hs
  · unfold syB; rw [rdf (by decide), rdf (by decide), rdf (by decide), rds]
  · unfold syB; rw [rdf (by decide), rds]
  · unfold syB; rw [rds]
  · rw [d _ _ (by omega) (by omega)]; exact hcf x hx'
  · rw [hsB.1 _ _ (by omega), hsB.1 _ _ (by omega)]; exact hmf t ht
theorem jo_system {A B : Hp} {i cs : Nat} (ha : (UA p T L g E Nm Pv i cs A)) (hb : (UB w T L g E Nm Pv i B)) (hC : WU p E) (hGr : GRP E) (hN : 7000 ≤ N) (q : tkk L i = 43) (hcs : cs ≤ 2 * tkp L i) : (Out (SD p) (SRd w) w L i A B (sysA N A) (F_MText_system N w B) (fun j _ A' _ B' => PU p w T L g E Nm Pv i cs A B j A' B')) := by
  have hG := ha.1.1.1
  have hP := ha.pP hC
  have hp := hC.2.1
  have hE := hC.1
  unfold sysA F_Reader_readHead F_MText_system
  rw [ck_t (rS_8 hG), rf_t ha.2.2.2.2, ck_t (PrS hP), bnd_t, ha.2.1.2.2.2.2.1.1, ck_t (TS hb.1.1.1), bnd_t, hb.2.1.2.2.2.2.1, bT_as]
  refine Out.bind (show _ from jo_begins (n := E 17 0) (most := 16) ha.1 hb.1 (by omega) hE.w5.1 (by decide)) ?_ ?_
  rotate_left
  · intro y B' k p0 hz
    exact ⟨(), B', by rw [bnd_t, bC_t (fz_told hz), bnd_t, if_neg hz.nle], hz, same.rf⟩
  intro j v A1 y B1 hij hxa hsb hQ
  obtain ⟨rfl, hs16, hn1, rfl, rfl⟩ := hQ
  have hA1 := ha.adv hC hn1
  have hB1 := hb.nx hn1
  have hP1 := hA1.pP hC
  have h56 : E 0 0 < 56 := by have := hE.w2.1; have := hE.w3.1; have := hE.w4.1; have := hC.2.2.1; omega
  rw [rf_t hA1.2.2.2.2, ck_t (PrS hP1), bnd_t, hA1.2.1.2.2.2.2.1.1, bnd_t, hB1.2.1.2.2.2.2.1, bT_as]
  refine Out.bind (show _ from jo_declare (so := 3) (n := E 17 0) hA1 hB1 hC hN h56) ?_ ?_
  rotate_left
  · intro y B' k p0 hz
    exact ⟨(), B', by rw [bnd_t, if_neg hz.nle], hz, same.rf⟩
  intro j v A2 y B2 hij hxa hsb hQ
  obtain ⟨rfl, t2, hn2, rfl, hBe, A3, s, rfl, hx3, hA3, s1, s2, s3, hAe, hfr⟩ := hQ
  have hW1 := esE_W1 hC hs16
  have hlenA := hA1.1.1.1.len
  have hlen3 := hA3.1.1.1.len
  have hxA2 : exA (SX p) 0 A3 A2 := by
    rw [hAe]
    exact (ntA_ex (fun f => decide_eq_true (by omega))).sD (decide_eq_true (by omega))
  have hP2 : isP A2 p := LA.pP (h := hA3.1.ex hxA2 (SX_ok hp) (decide_eq_false (by omega)) (decide_eq_false (by omega)) (decide_eq_false (by omega)) (decide_eq_false (by omega))) hp
  have h82 : A2.P 8 2 = .ref p := by rw [(hxA2.2.2.2 8 2 (by omega) (decide_eq_false (by omega))).2]; exact hA3.2.2.2.2
  have hT2 : isT B2 w := by rw [hBe]; exact hB1.1.1.1
  have b9 : B2.D w 9 = 0 := by rw [hBe, rdf (by decide), rdw (by omega), rdw (by omega), rdw (by omega), rdf (by decide)]; exact hB1.1.2.2.2.1
  have b29 : B2.D w 29 = nI (E 17 0) := by rw [hBe, rdf (by decide), rdw (by omega), rdw (by omega), rdw (by omega), rdf (by decide)]; exact hB1.2.1.2.2.2.2.1
  have hAs : A2.sD p 7 (nI (E 17 0 + 1)) = syA A3 p (E 0 0) (E 17 0) s := by rw [hAe]; rfl
  have hBs : (((B2.sD w 29 (nI (E 17 0 + 1))).sD w 37 0).sD w 41 0).sD w 42 0 = syB (B.sD w 11 (nI (i + 1))) w (i + 1) (E 0 0) (E 17 0) := by rw [hBe]; rfl
  have hH := HH.beg (A0 := A) (B0 := B) (i := i + 1) (i0 := i) hA3 hB1 hC hs16 hn2 s1 s2 s3 rfl (fun x hx => by rw [(hx3.2.2.2 (p + 191) x (by omega) (decide_eq_false (by omega))).1, code_adv hp]) (fun t ht => by rw [rdw (by omega), rdw (by omega)]; exact ⟨rfl, rfl⟩) (by omega)
  rw [on_t, rf_t h82, ck_t (PrS hP2), nI_1, bnd_t, sD_P, rf_t h82, ck_t (show (A2.sD p 7 (nI (E 17 0 + 1))).sh[p]? = some (4, 0) from (PrS hP2 : A2.sh[p]? = some (4, 0))), rf_t (PrP_8 hP2), bT_as, hAs, bnd_t, b9, if_pos (show (0 : Int32) ≤ 0 by decide), bnd_t, b29, nI_1, bnd_t, bnd_t, bnd_t, bnd_t, hBs]
  have hT4 := hH.2.1.1.1.1
  rw [rf_t (TP_34 hT4)]
  have hsyB : same (SRd w) B2 (syB (B.sD w 11 (nI (i + 1))) w (i + 1) (E 0 0) (E 17 0)) := by
    refine same.w37 (R := fun a f => a = w ∧ (f = 29 ∨ f = 37 ∨ f = 41 ∨ f = 42)) ?_ (fun a f z => by unfold SRd; omega) ?_
    · rw [← hBs]; exact (((same.rf.sD (by omega)).sD (by omega)).sD (by omega)).sD (by omega)
    · rw [hH.2.1.2.2, hBe, rdf (by decide), rdw (by omega), rdw (by omega), rdw (by omega), rdf (by decide), hB1.2.2.1]
  refine Out.pre (i := i + 1 + 1) (j := i + 1 + 1) (k := 0) (A1 := syA A3 p (E 0 0) (E 17 0) s) (B1 := syB (B.sD w 11 (nI (i + 1))) w (i + 1) (E 0 0) (E 17 0)) ?_ (by rw [← hAs]; exact exA.rf.sD (decide_eq_true (by omega))) hsyB (Nat.le_refl _) hn2 (by omega)
  have gp := hb.2.2.2
  generalize syA A3 p (E 0 0) (E 17 0) s = A4 at hH
  generalize syB (B.sD w 11 (nI (i + 1))) w (i + 1) (E 0 0) (E 17 0) = B4 at hH
  have hNQ : NMQ E Nm → NMQ (esE E) (upN Nm 1 (E 0 0) (nmT g L (i + 1))) := fun y => y.tell (so := 3) (n := E 17 0) hfr hC.1.w1 rfl (fun k => rfl) (fun k => rfl) (fun k => rfl) (.inr ⟨by decide, rfl, fun c => rfl⟩) (.inr ⟨by decide, rfl, fun c => rfl⟩) (fun c m y => y) (fun m => rfl)
  generalize upN Nm 1 (E 0 0) (nmT g L (i + 1)) = Nm1 at hH hNQ
  refine jo_optS (E := esE E) (Nm := Nm1) hH.1 hH.2.1 hp hW1 hN ?_ (fun y B' k p0 hz => by obtain ⟨B2, z1, z2, z3⟩ := fz_sy82 (N := N) (v := y) (a := 65535) hN hs16 hz; exact ⟨(), B2, z1, z2, z3⟩)
  intro j5 af A5 B5 haf hA5 hB5 hij5 hj5 hx5 hs5
  obtain ⟨hH5, dA5, dB5⟩ := hH.go hC hA5 hB5 hx5 hs5 hij5
  have hP5 := hA5.1.pP hp
  unfold B_MText_system_82
  rw [ar_t (PrA_8 hP5), wrI (show E 17 0 < 16 from hs16) (by decide), ar_t (TA_34 hB5.1.1.1), wrI (show E 17 0 < 16 from hs16) (by decide)]
  have v4 : (A5.sD (p + 184) (E 17 0) (nI af)).D (p + 184) (E 17 0) = nI af := rds
  have u5 : (B5.sD (w + 25) (E 17 0) (nI af)).D (w + 25) (E 17 0) = nI af := rds
  have hH6 := (hH5.sDA (v := nI af) hC hs16 (show p + 184 ≤ p + 184 ∧ p + 184 ≤ p + 188 by omega)).sDB (v := nI af) (show w + 21 ≤ w + 25 ∧ w + 25 ≤ w + 25 by omega)
  refine Out.pre (i := j5) (j := j5) (k := 0) (A1 := A5.sD (p + 184) (E 17 0) (nI af)) (B1 := B5.sD (w + 25) (E 17 0) (nI af)) ?_ (exA.rf.sD (decide_eq_true (by omega))) (same.rf.sD (by unfold SRd; omega)) (Nat.le_refl _) hj5 (by omega)
  generalize A5.sD (p + 184) (E 17 0) (nI af) = A6 at v4 hH6
  generalize B5.sD (w + 25) (E 17 0) (nI af) = B6 at u5 hH6
  clear hH hH5 dA5 dB5 hA5 hB5 hx5 hs5 hP5 hAs hBs
  have hG6 := hH6.1.1.1.1
  have hT6 := hH6.2.1.1.1.1
  have h81 := (hH6.2.1.1.2.2.2.2.2.2.2.2.2.1 j5 hj5).2.1
  have k45 : (nI (tkk L j5) = (45 : Int32)) = (tkk L j5 = 45) := propext (nI_eq (b := 45) (by omega) (by decide))
  rw [rf_t (rP_8_0 hG6), ck_t (rS_1 hG6), bnd_t, hH6.1.1.2.2.2.2.1, ck_t (TS hT6), show (205 : Int32) = nI (tyK 45) from rfl, ev_takes hH6.2.1.1 (by decide)]
  by_cases z : tkk L j5 = 45
  · have hn := hH6.2.1.1.gt (show 2 ≤ tkk L j5 by omega)
    obtain ⟨n, hNn⟩ : ∃ n, N = n + 1 := ⟨N - 1, by omega⟩
    have hA7 := hH6.1.sl (adv_ex (i := j5) (L := L)) hp hW1 (adv_LA hH6.1.1 hn)
    have hs7 : same (fun a f => (a = w ∧ f = 11) ∨ (a = w + 7 ∧ j5 ≤ f)) B6 (B6.sD w 11 (nI (j5 + 1))) := same.rf.sD (by omega)
    have hB7 : HB w T L g (esE E) Nm1 (j5 + 1) (B6.sD w 11 (nI (j5 + 1))) := hH6.2.1.at (hH6.2.1.1.nx hn) (hs7.mono (fun a f z => by omega))
    rw [if_pos (show nI (tkk L j5) = (45 : Int32) by rw [k45]; exact z), if_pos z, bC_v, sD_P, rf_t (TP_30 hT6)]
    unfold B_Reader_readHead_86
    rw [ck_t (rS_8 hG6), bT_as, show F_Reader_namesBehind N 8 (45 : Int32) (0 : Int32) (0 : Int32) (65535 : Int32) A6 = _ from ev_nb0 (wd := 45) (so := 0) (told := 0) (may := 65535) hH6.1 hNn hn z (by decide)]
    unfold F_MText_names
    refine Out.pre (Out.bind (show _ from jo_hnames (p1 := nI 45) (told := 0) (may := 65535) hp hW1 hN (by decide) (by decide) 17 0 (j5 + 1) _ _ n N (by decide) (by decide) (by omega) (by omega) hA7 hB7) ?_ (fun y B' k p0 hz => by obtain ⟨B2, z1, z2, z3⟩ := fz_syE (N := N) (v := y) (a := 65535) hN hs16 hz; exact ⟨(), B2, z1, z2, z3⟩)) (adv_ex.mono SL_SD (Nat.le_refl _)) (same.rf.sD (by unfold SRd; omega)) (show j5 ≤ j5 + 1 by omega) hn (by omega)
    rintro j8 v8 A8 y8 B8 q1 q2 q3 ⟨ea, r1, rfl, rfl, r4, r5, r6, ⟨kx, r7⟩, r8, -⟩
    obtain ⟨hH8, dA8, dB8⟩ := hH6.go hC r4 r5 ⟨_, adv_ex.tr r7⟩ (hs7.tr (r8.mono (fun a f z => by omega))) (show j5 ≤ j8 by omega)
    exact jo_sysC (Nm0 := Nm) hN hC hGr gp hs16 hH8 (by rw [dA8 _ _ (by omega) (by omega)]; exact v4) (by rw [dB8 _ _ (by omega)]; exact u5) haf r1 (by have := hH6.2.2.2.2.2.2; omega) hcs hNQ
  · have z1 : Zf (failB B6 w 1 (tkp L j5)) w 1 (tkp L j5) := hH6.2.1.1.fail (by decide) (by decide)
    obtain ⟨B9, e1, e2, e3⟩ := fz_syE (N := N) (v := 0) (a := 65535) (s := E 17 0) hN hs16 z1
    rw [if_neg (show ¬ nI (tkk L j5) = (45 : Int32) by rw [k45]; exact z), if_neg z, rf_t (rP_8_0 hG6), rf_t (rP_8_0 hG6), ck_t (rS_1 hG6), bnd_t, hH6.1.1.2.2.2.2.2.1, ck_t (rS_1 hG6), ev_refuse hG6, bT_z, bT_z, bC_v, rf_t (TP_30 z1.1), bC_t (fz_names z1 (by omega))]
    have e1' : syE N w (nI (E 17 0)) 65535 0 (failB B6 w 1 (tkp L j5)) = some ((), B9) := e1
    unfold syE at e1'
    rw [e1']
    exact Out.noD (k := 1) hH6.2.1.1 (by decide) (by decide) hj5 e2 (SRd_fail.tr e3)
end Par
