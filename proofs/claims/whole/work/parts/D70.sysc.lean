/-! ===== a system read alike ===== -/
def KsA (p : Nat) (E : Nat → Nat → Nat) (Nm : Nat → Nat → List Nat) (Pv : Nat → Nat → Int32) (cs : Nat) (A : Hp) : Prop := EA2 A p E Nm ∧ EA3 A p E Nm ∧ EA4 A p E Pv ∧ (∀ s, s < E 17 0 → A.D (p + 184) s = nI (E 22 s) ∧ A.D (p + 185) s = nI (E 18 s) ∧ A.D (p + 186) s = nI (E 19 s) ∧ A.D (p + 187) s = nI (E 20 s) ∧ A.D (p + 188) s = nI (E 21 s) ∧ A.D (p + 189) s = nI (E 23 s) ∧ A.D (p + 190) s = nI (E 25 s)) ∧ A.D p 7 = nI (E 17 0 + 1) ∧ A.D p 15 = nI (E 26 0) ∧ A.D p 17 = nI cs
def KsB (w : Nat) (E : Nat → Nat → Nat) (Nm : Nat → Nat → List Nat) (Pv : Nat → Nat → Int32) (B : Hp) : Prop := EB2 B w E Nm ∧ EB3 B w E Nm ∧ EB4 B w E Pv ∧ (∀ s, s < E 17 0 → B.D (w + 25) s = nI (E 22 s) ∧ B.D (w + 21) s = nI (E 18 s) ∧ B.D (w + 22) s = nI (E 19 s) ∧ B.D (w + 23) s = nI (E 20 s) ∧ B.D (w + 24) s = nI (E 21 s) ∧ B.D (w + 26) s = nI (E 24 s)) ∧ B.D w 29 = nI (E 17 0 + 1) ∧ B.D w 41 = 0 ∧ B.D w 42 = 0
theorem nI_ex (y : Int32) : ∃ k, y = nI k := ⟨y.toUInt32.toNat, by
  show y = (UInt32.ofNat y.toUInt32.toNat).toInt32
  rw [UInt32.ofNat_toNat]
  rfl⟩
theorem nI_xm (a : Nat) : nI a ^^^ ((-1) : Int32) = nI (a ^^^ 4294967295) := by
  apply Int32.toBitVec_inj.mp
  rw [Int32.toBitVec_xor]
  show BitVec.ofNat 32 a ^^^ BitVec.ofNat 32 4294967295 = BitVec.ofNat 32 (a ^^^ 4294967295)
  rw [BitVec.ofNat_xor]
section Par
variable {N p w T : Nat} {L : List (Nat × Nat × Int32 × Bool × Nat)} {g : Nat → Nat} {E : Nat → Nat → Nat} {Nm : Nat → Nat → List Nat} {Pv : Nat → Nat → Int32} {nL lc dp : Nat} {ln : Nat → List Nat} {lk lf : Nat → Nat} {hd : Nat → Int32}
theorem KsA.fr {A A' : Hp} {cs : Nat} (h : KsA p E Nm Pv cs A) (hE : WE E) (hd : ∀ a f, p ≤ a → ¬ (p + 184 ≤ a ∧ a ≤ p + 188 ∧ f = E 17 0) → A'.D a f = A.D a f) (hn : ∀ a n, p ≤ a → nmd A a n → nmd A' a n) : KsA p E Nm Pv cs A' := by
  obtain ⟨a2, a3, a4, a5, a6, a7, a8⟩ := h
  refine ⟨EA2.fr a2 hE (fun a f z => hd a f (by omega) (by omega)) (fun a n z1 z2 z3 => hn a n (by omega) z3), EA3.fr a3 hE (fun a f z => hd a f (by omega) (by omega)) (fun a n z1 z2 z3 => hn a n (by omega) z3), EA4.fr a4 (fun a f z => hd a f (by omega) (by omega)), fun s hs => ?_, by rw [hd _ _ (by omega) (by omega)]; exact a6, by rw [hd _ _ (by omega) (by omega)]; exact a7, by rw [hd _ _ (by omega) (by omega)]; exact a8⟩
  rw [hd _ _ (by omega) (by omega), hd _ _ (by omega) (by omega), hd _ _ (by omega) (by omega), hd _ _ (by omega) (by omega), hd _ _ (by omega) (by omega), hd _ _ (by omega) (by omega), hd _ _ (by omega) (by omega)]
  exact a5 s hs
theorem KsA.sl {A A' : Hp} {cs k : Nat} (h : KsA p E Nm Pv cs A) (hE : WE E) (hp : p = 133 ∨ p = 325) (hx : exA SL k A A') (hl : 626 ≤ A.sh.length) : KsA p E Nm Pv cs A' := by
  have w2 := hE.w2
  obtain ⟨a2, a3, a4, a5, a6, a7, a8⟩ := h
  have hd : ∀ a f, p ≤ a → a < 626 → A'.D a f = A.D a f := fun a f h1 h2 => (hx.2.2.2 a f (by omega) (decide_eq_false (by omega))).1
  have hn : ∀ a n, p ≤ a → a < 626 → nmd A a n → nmd A' a n := fun a n h1 h2 q => hx.nmd SL_lt (decide_eq_false (by omega)) (by omega) q
  refine ⟨EA2.fr a2 hE (fun a f z => hd a f (by omega) (by omega)) (fun a n z1 z2 z3 => hn a n (by omega) (by omega) z3), EA3.fr a3 hE (fun a f z => hd a f (by omega) (by omega)) (fun a n z1 z2 z3 => hn a n (by omega) (by omega) z3), EA4.fr a4 (fun a f z => hd a f (by omega) (by omega)), fun s hs => ?_, by rw [hd _ _ (by omega) (by omega)]; exact a6, by rw [hd _ _ (by omega) (by omega)]; exact a7, by rw [hd _ _ (by omega) (by omega)]; exact a8⟩
  rw [hd _ _ (by omega) (by omega), hd _ _ (by omega) (by omega), hd _ _ (by omega) (by omega), hd _ _ (by omega) (by omega), hd _ _ (by omega) (by omega), hd _ _ (by omega) (by omega), hd _ _ (by omega) (by omega)]
  exact a5 s hs
theorem KsA.sD {A : Hp} {cs a : Nat} {v : Int32} (h : KsA p E Nm Pv cs A) (hE : WE E) (hp : p = 133 ∨ p = 325) (ha : p + 184 ≤ a ∧ a ≤ p + 188) : KsA p E Nm Pv cs (A.sD a (E 17 0) v) := by
  refine h.fr hE (fun x f h1 h2 => ?_) (fun x n h1 q => q.sD (by omega))
  by_cases z : x = a
  · subst z; exact rdf (by omega)
  · exact rdw z
theorem KsB.fr {B B' : Hp} (h : KsB w E Nm Pv B) (hl : ltr w B B') (hd : ∀ a f, w ≤ a → a ≠ w + 7 → ¬ (a = w ∧ f = 11) → ¬ (w + 21 ≤ a ∧ a ≤ w + 25 ∧ f = E 17 0) → B'.D a f = B.D a f) : KsB w E Nm Pv B' := by
  obtain ⟨b2, b3, b4, b5, b6, b7, b8⟩ := h
  refine ⟨EB2.fr b2 hl (fun a f z => hd a f (by omega) (by omega) (by omega) (by omega)), EB3.fr b3 hl (fun a f z => hd a f (by omega) (by omega) (by omega) (by omega)), EB4.fr b4 (fun a f z => hd a f (by omega) (by omega) (by omega) (by omega)), fun s hs => ?_, by rw [hd _ _ (by omega) (by omega) (by omega) (by omega)]; exact b6, by rw [hd _ _ (by omega) (by omega) (by omega) (by omega)]; exact b7, by rw [hd _ _ (by omega) (by omega) (by omega) (by omega)]; exact b8⟩
  rw [hd _ _ (by omega) (by omega) (by omega) (by omega), hd _ _ (by omega) (by omega) (by omega) (by omega), hd _ _ (by omega) (by omega) (by omega) (by omega), hd _ _ (by omega) (by omega) (by omega) (by omega), hd _ _ (by omega) (by omega) (by omega) (by omega), hd _ _ (by omega) (by omega) (by omega) (by omega)]
  exact b5 s hs
theorem KsB.at {B B' : Hp} {i : Nat} (h : KsB w E Nm Pv B) (hs : same (fun a f => (a = w ∧ f = 11) ∨ (a = w + 7 ∧ i ≤ f)) B B') : KsB w E Nm Pv B' := by
  refine h.fr ⟨?_, ?_, ?_⟩ (fun a f h1 h2 h3 h4 => hs.1 _ _ (by omega)) <;> (funext f; exact hs.1 _ _ (by omega))
theorem KsB.sD {B : Hp} {a : Nat} {v : Int32} (h : KsB w E Nm Pv B) (ha : w + 21 ≤ a ∧ a ≤ w + 25) : KsB w E Nm Pv (B.sD a (E 17 0) v) := by
  refine h.fr ⟨?_, ?_, ?_⟩ (fun x f h1 h2 h3 h4 => ?_)
  · funext f; exact rdw (by omega)
  · funext f; exact rdw (by omega)
  · funext f; exact rdw (by omega)
  · by_cases z : x = a
    · subst z; exact rdf (by omega)
    · exact rdw z
/-- what stands while a head is read -/
def HH (p w T : Nat) (L : List (Nat × Nat × Int32 × Bool × Nat)) (g : Nat → Nat) (E : Nat → Nat → Nat) (Nm : Nat → Nat → List Nat) (Pv : Nat → Nat → Int32) (i0 cs : Nat) (A0 B0 : Hp) (j : Nat) (A B : Hp) : Prop := HA p T L g (esE E) Nm j A ∧ HB w T L g (esE E) Nm j B ∧ KsA p E Nm Pv cs A ∧ KsB w E Nm Pv B ∧ cfr p cs A0 A ∧ mfr w i0 B0 B ∧ i0 + 2 ≤ j
theorem HH.go {A0 B0 A B A' B' : Hp} {i0 cs j j' : Nat} (h : HH p w T L g E Nm Pv i0 cs A0 B0 j A B) (hC : WU p E) (hA : HA p T L g (esE E) Nm j' A') (hB : HB w T L g (esE E) Nm j' B') (hx : ∃ kx, exA SL kx A A') (hs : same (fun a f => (a = w ∧ f = 11) ∨ (a = w + 7 ∧ j ≤ f)) B B') (hj : j ≤ j') : HH p w T L g E Nm Pv i0 cs A0 B0 j' A' B' ∧ (∀ a f, p ≤ a → a < 626 → A'.D a f = A.D a f) ∧ ∀ a f, w + 8 ≤ a → B'.D a f = B.D a f := by
  obtain ⟨kx, hx⟩ := hx
  have hp := hC.2.1
  have hl := h.1.1.1.1.len
  have hd : ∀ a f, p ≤ a → a < 626 → A'.D a f = A.D a f := fun a f h1 h2 => (hx.2.2.2 a f (by omega) (decide_eq_false (by omega))).1
  obtain ⟨h1, h2, h3, h4, h5, h6, h7⟩ := h
  refine ⟨⟨hA, hB, h3.sl hC.1 hp hx hl, h4.at hs, fun x hx' => by rw [hd _ _ (by omega) (by omega)]; exact h5 x hx', fun t ht => ?_, by omega⟩, hd, fun a f h => hs.1 _ _ (by omega)⟩
  rw [hs.1 _ _ (by omega), hs.1 _ _ (by omega)]
  exact h6 t ht
theorem HH.sDA {A0 B0 A B : Hp} {i0 cs j a : Nat} {v : Int32} (h : HH p w T L g E Nm Pv i0 cs A0 B0 j A B) (hC : WU p E) (hs : E 17 0 < 16) (ha : p + 184 ≤ a ∧ a ≤ p + 188) : HH p w T L g E Nm Pv i0 cs A0 B0 j (A.sD a (E 17 0) v) B := by
  obtain ⟨h1, h2, h3, h4, h5, h6, h7⟩ := h
  exact ⟨h1.sD hC.2.1 (esE_W1 hC hs) (Or.inl (by omega)), h2, h3.sD hC.1 hC.2.1 ha, h4, fun x hx => by rw [rdw (by omega)]; exact h5 x hx, h6, h7⟩
theorem HH.sDB {A0 B0 A B : Hp} {i0 cs j a : Nat} {v : Int32} (h : HH p w T L g E Nm Pv i0 cs A0 B0 j A B) (ha : w + 21 ≤ a ∧ a ≤ w + 25) : HH p w T L g E Nm Pv i0 cs A0 B0 j A (B.sD a (E 17 0) v) := by
  obtain ⟨h1, h2, h3, h4, h5, h6, h7⟩ := h
  exact ⟨h1, h2.sD (by omega), h3, h4.sD ha, h5, fun t ht => by rw [rdw (by omega), rdw (by omega)]; exact h6 t ht, h7⟩
/-- from each's names on -/
theorem jo_sysC {A0 B0 A B : Hp} {i0 j cs af ea : Nat} {Nm0 : Nat → Nat → List Nat} (hN : 7000 ≤ N) (hC : WU p E) (hGr : GRP E) (gp : GP E Pv) (hs16 : E 17 0 < 16) (hH : HH p w T L g E Nm Pv i0 cs A0 B0 j A B) (v4 : A.D (p + 184) (E 17 0) = nI af) (u5 : B.D (w + 25) (E 17 0) = nI af) (h1 : af < 65536) (h2 : ea < 65536) (hj4 : i0 + 4 ≤ j) (hcs0 : cs ≤ 2 * tkp L i0) (hNQ : NMQ E Nm0 → NMQ (esE E) Nm) :
    (Out (SD p) (SRd w) w L j A B (bT (rf (A.P 8 2) fun a46 => ck (A.sh[a46]? = some (4, 0)) <| rf (A.P a46 9) fun a49 => ar A 100 a49 fun n51 => ck (inb (nI (E 17 0)) n51) <| bnd (A.sD a49 (nI (E 17 0)).toNatClampNeg (nI ea)) fun H54 => rf (H54.P 8 2) fun a55 => ck (H54.sh[a55]? = some (4, 0)) <| rf (H54.P a55 10) fun a58 => bT (F_Reader_namesBehind N 8 (46 : Int32) (0 : Int32) (nI ea) (65535 : Int32) H54) fun v61 H62 => ar H62 100 a58 fun n64 => ck (inb (nI (E 17 0)) n64) <| bnd (H62.sD a58 (nI (E 17 0)).toNatClampNeg v61) fun H67 => bT (F_Reader_namesBehind N 8 (47 : Int32) (0 : Int32) (0 : Int32) (nI ea) H67) fun v69 H70 => rf (H70.P 8 2) fun a72 => ck (H70.sh[a72]? = some (4, 0)) <| rf (H70.P a72 11) fun a75 => ar H70 100 a75 fun n77 => ck (inb (nI (E 17 0)) n77) <| bnd (H70.sD a75 (nI (E 17 0)).toNatClampNeg v69) fun H80 => rf (H80.P 8 2) fun a81 => ck (H80.sh[a81]? = some (4, 0)) <| rf (H80.P a81 12) fun a84 => bT (F_Reader_namesBehind N 8 (48 : Int32) (0 : Int32) (0 : Int32) ((65535 : Int32) &&& (v69 ^^^ ((-1) : Int32))) H80) fun v87 H88 => ar H88 100 a84 fun n90 => ck (inb (nI (E 17 0)) n90) <| bnd (H88.sD a84 (nI (E 17 0)).toNatClampNeg v87) fun H93 => rf (H93.P 8 2) fun a94 => ck (H93.sh[a94]? = some (4, 0)) <| rf (H93.P a94 13) fun a97 => rf (H93.P 8 2) fun a99 => ck (H93.sh[a99]? = some (4, 0)) <| bnd ((H93.D a99 17)) fun x102 => ar H93 100 a97 fun n103 => ck (inb (nI (E 17 0)) n103) <| bnd (H93.sD a97 (nI (E 17 0)).toNatClampNeg x102) fun H106 => rf (H106.P 8 2) fun a107 => ck (H106.sh[a107]? = some (4, 0)) <| bC (F_Program_settleGroup N a107 H106) fun v111 H112 => some (.inl (), H112)) fun _ H => syK N H) (syE N w (nI (E 17 0)) (65535 : Int32) (nI ea) B) (fun j _ A' _ B' => PU p w T L g E Nm0 Pv i0 cs A0 B0 j A' B')) := by
  have hp := hC.2.1
  have hW1 := esE_W1 hC hs16
  have hP := hH.1.1.pP hp
  have hT := hH.2.1.1.1.1
  have hj := hH.1.1.2.2.2.2.2.2.1
  unfold syE
  rw [rf_t hH.1.2.2.2, ck_t (PrS hP), rf_t (PrP_9 hP), ar_t (PrA_9 hP), wrI (show E 17 0 < 16 from hs16) (by decide), ar_t (TA_30 hT), wrI (show E 17 0 < 16 from hs16) (by decide)]
  have v5 : (A.sD (p + 185) (E 17 0) (nI ea)).D (p + 185) (E 17 0) = nI ea := rds
  have v4' : (A.sD (p + 185) (E 17 0) (nI ea)).D (p + 184) (E 17 0) = nI af := by rw [rdw (by omega)]; exact v4
  have u1 : (B.sD (w + 21) (E 17 0) (nI ea)).D (w + 21) (E 17 0) = nI ea := rds
  have u5' : (B.sD (w + 21) (E 17 0) (nI ea)).D (w + 25) (E 17 0) = nI af := by rw [rdw (by omega)]; exact u5
  have hH1 := (hH.sDA (v := nI ea) hC hs16 (show p + 184 ≤ p + 185 ∧ p + 185 ≤ p + 188 by omega)).sDB (v := nI ea) (show w + 21 ≤ w + 21 ∧ w + 21 ≤ w + 25 by omega)
  refine Out.pre (i := j) (j := j) (k := 0) (A1 := A.sD (p + 185) (E 17 0) (nI ea)) (B1 := B.sD (w + 21) (E 17 0) (nI ea)) ?_ (exA.rf.sD (decide_eq_true (by omega))) (same.rf.sD (by unfold SRd; omega)) (Nat.le_refl _) hj (by omega)
  generalize A.sD (p + 185) (E 17 0) (nI ea) = A1 at v5 v4' hH1
  generalize B.sD (w + 21) (E 17 0) (nI ea) = B1 at u1 u5' hH1
  clear hH v4 u5 hP hT
  -- without
  have hP := hH1.1.1.pP hp
  have hT := hH1.2.1.1.1.1
  rw [rf_t hH1.1.2.2.2, ck_t (PrS hP), rf_t (PrP_10 hP), bT_as, rf_t (TP_31 hT)]
  refine jo_opt (E := esE E) (Nm := Nm) (wd := 46) (told := ea) (may := 65535) hH1.1 hH1.2.1 hp hW1 hN (by decide) (by decide) (by decide) h2 (by decide) ?_ ?_ (fun y B' k p0 hz => by obtain ⟨B2, z1, z2, z3⟩ := fz_132 (N := N) (v := y) (a := 65535) hN hs16 hz; exact ⟨(), B2, z1, z2, z3⟩)
  · rw [sD_P, rf_t (TP_30 hT), ar_sD, ar_t (TA_30 hT), rdI (show E 17 0 < 16 from hs16) (by decide), rdw (by omega), u1]
    rfl
  intro j2 wi A2 B2 hwi hA2 hB2 hij2 hj2 hx2 hs2 _
  obtain ⟨hH2, dA2, dB2⟩ := hH1.go hC hA2 hB2 hx2 hs2 hij2
  unfold B_MText_system_132
  rw [ar_t (PrA_10 (hA2.1.pP hp)), wrI (show E 17 0 < 16 from hs16) (by decide), ar_t (TA_31 hB2.1.1.1), wrI (show E 17 0 < 16 from hs16) (by decide)]
  have w6 : (A2.sD (p + 186) (E 17 0) (nI wi)).D (p + 186) (E 17 0) = nI wi := rds
  have w5 : (A2.sD (p + 186) (E 17 0) (nI wi)).D (p + 185) (E 17 0) = nI ea := by rw [rdw (by omega), dA2 _ _ (by omega) (by omega)]; exact v5
  have w4 : (A2.sD (p + 186) (E 17 0) (nI wi)).D (p + 184) (E 17 0) = nI af := by rw [rdw (by omega), dA2 _ _ (by omega) (by omega)]; exact v4'
  have t2 : (B2.sD (w + 22) (E 17 0) (nI wi)).D (w + 22) (E 17 0) = nI wi := rds
  have t1 : (B2.sD (w + 22) (E 17 0) (nI wi)).D (w + 21) (E 17 0) = nI ea := by rw [rdw (by omega), dB2 _ _ (by omega)]; exact u1
  have t5 : (B2.sD (w + 22) (E 17 0) (nI wi)).D (w + 25) (E 17 0) = nI af := by rw [rdw (by omega), dB2 _ _ (by omega)]; exact u5'
  have hH3 := (hH2.sDA (v := nI wi) hC hs16 (show p + 184 ≤ p + 186 ∧ p + 186 ≤ p + 188 by omega)).sDB (v := nI wi) (show w + 21 ≤ w + 22 ∧ w + 22 ≤ w + 25 by omega)
  refine Out.pre (i := j2) (j := j2) (k := 0) (A1 := A2.sD (p + 186) (E 17 0) (nI wi)) (B1 := B2.sD (w + 22) (E 17 0) (nI wi)) ?_ (exA.rf.sD (decide_eq_true (by omega))) (same.rf.sD (by unfold SRd; omega)) (Nat.le_refl _) hj2 (by omega)
  generalize A2.sD (p + 186) (E 17 0) (nI wi) = A3 at w6 w5 w4 hH3
  generalize B2.sD (w + 22) (E 17 0) (nI wi) = B3 at t2 t1 t5 hH3
  clear hH1 hH2 dA2 dB2 hA2 hB2 hx2 hs2 v5 v4' u1 u5' hP hT
  -- writes
  have hP := hH3.1.1.pP hp
  have hT := hH3.2.1.1.1.1
  rw [bT_as, ck_t (TS hT), rf_t (TP_32 hT)]
  refine jo_opt (E := esE E) (Nm := Nm) (wd := 47) (told := 0) (may := ea) hH3.1 hH3.2.1 hp hW1 hN (by decide) (by decide) (by decide) (by decide) h2 ?_ ?_ (fun y B' k p0 hz => by obtain ⟨B2, z1, z2, z3⟩ := fz_163 (N := N) (v := y) (a := 65535) hN hs16 hz; exact ⟨(), B2, z1, z2, z3⟩)
  · rw [sD_P, rf_t (TP_30 hT), ar_sD, ar_t (TA_30 hT), rdI (show E 17 0 < 16 from hs16) (by decide), rdw (by omega), t1]
    rfl
  intro j4 wr A4 B4 hwr hA4 hB4 hij4 hj4' hx4 hs4 hwe
  obtain ⟨hH4, dA4, dB4⟩ := hH3.go hC hA4 hB4 hx4 hs4 hij4
  unfold B_MText_system_163
  have hP4 := hA4.1.pP hp
  rw [rf_t hA4.2.2.2, ck_t (PrS hP4), rf_t (PrP_11 hP4), ar_t (PrA_11 hP4), wrI (show E 17 0 < 16 from hs16) (by decide), ar_t (TA_32 hB4.1.1.1), wrI (show E 17 0 < 16 from hs16) (by decide)]
  have y7 : (A4.sD (p + 187) (E 17 0) (nI wr)).D (p + 187) (E 17 0) = nI wr := rds
  have y6 : (A4.sD (p + 187) (E 17 0) (nI wr)).D (p + 186) (E 17 0) = nI wi := by rw [rdw (by omega), dA4 _ _ (by omega) (by omega)]; exact w6
  have y5 : (A4.sD (p + 187) (E 17 0) (nI wr)).D (p + 185) (E 17 0) = nI ea := by rw [rdw (by omega), dA4 _ _ (by omega) (by omega)]; exact w5
  have y4 : (A4.sD (p + 187) (E 17 0) (nI wr)).D (p + 184) (E 17 0) = nI af := by rw [rdw (by omega), dA4 _ _ (by omega) (by omega)]; exact w4
  have s3 : (B4.sD (w + 23) (E 17 0) (nI wr)).D (w + 23) (E 17 0) = nI wr := rds
  have s2 : (B4.sD (w + 23) (E 17 0) (nI wr)).D (w + 22) (E 17 0) = nI wi := by rw [rdw (by omega), dB4 _ _ (by omega)]; exact t2
  have s1 : (B4.sD (w + 23) (E 17 0) (nI wr)).D (w + 21) (E 17 0) = nI ea := by rw [rdw (by omega), dB4 _ _ (by omega)]; exact t1
  have s5 : (B4.sD (w + 23) (E 17 0) (nI wr)).D (w + 25) (E 17 0) = nI af := by rw [rdw (by omega), dB4 _ _ (by omega)]; exact t5
  have hH5 := (hH4.sDA (v := nI wr) hC hs16 (show p + 184 ≤ p + 187 ∧ p + 187 ≤ p + 188 by omega)).sDB (v := nI wr) (show w + 21 ≤ w + 23 ∧ w + 23 ≤ w + 25 by omega)
  refine Out.pre (i := j4) (j := j4) (k := 0) (A1 := A4.sD (p + 187) (E 17 0) (nI wr)) (B1 := B4.sD (w + 23) (E 17 0) (nI wr)) ?_ (exA.rf.sD (decide_eq_true (by omega))) (same.rf.sD (by unfold SRd; omega)) (Nat.le_refl _) hj4' (by omega)
  generalize A4.sD (p + 187) (E 17 0) (nI wr) = A5 at y7 y6 y5 y4 hH5
  generalize B4.sD (w + 23) (E 17 0) (nI wr) = B5 at s3 s2 s1 s5 hH5
  clear hH3 hH4 dA4 dB4 hA4 hB4 hx4 hs4 w6 w5 w4 t2 t1 t5 hP hT hP4
  -- reads
  have hP := hH5.1.1.pP hp
  have hT := hH5.2.1.1.1.1
  obtain ⟨kz, hkz, hkb⟩ : ∃ kz, nI wr ^^^ ((-1) : Int32) = nI kz ∧ kz = wr ^^^ 4294967295 := ⟨_, nI_xm wr, rfl⟩
  have hmz : (65535 : Int32) &&& (nI wr ^^^ ((-1) : Int32)) = nI (65535 &&& kz) := by
    rw [hkz]
    exact nI_and 65535 kz (by decide)
  have hml : 65535 &&& kz < 65536 := by
    have : 65535 &&& kz ≤ 65535 := Nat.and_le_left
    omega
  rw [rf_t hH5.1.2.2.2, ck_t (PrS hP), rf_t (PrP_12 hP), hmz, bT_as, ck_t (TS hT), rf_t (TP_33 hT)]
  refine jo_opt (E := esE E) (Nm := Nm) (wd := 48) (told := 0) (may := 65535 &&& kz) hH5.1 hH5.2.1 hp hW1 hN (by decide) (by decide) (by decide) (by decide) hml ?_ ?_ (fun y B' k p0 hz => by obtain ⟨B2, z1, z2, z3⟩ := fz_198 (N := N) (v := y) hN hs16 hz; exact ⟨(), B2, z1, z2, z3⟩)
  · rw [sD_P, rf_t (TP_32 hT), ar_sD, ar_t (TA_32 hT), rdI (show E 17 0 < 16 from hs16) (by decide), rdw (by omega), s3, hmz]
    rfl
  intro j6 re A6 B6 hre hA6 hB6 hij6 hj6 hx6 hs6 hrm
  obtain ⟨hH6, dA6, dB6⟩ := hH5.go hC hA6 hB6 hx6 hs6 hij6
  obtain ⟨h61, h62, ⟨k1, k2, k3, k4, k5, k6, k7⟩, ⟨l1, l2, l3, l4, l5, l6, l7⟩, h65, h66, h67⟩ := hH6
  have hps := pos_ij h62.1 (show i0 ≤ j6 by omega) hj6
  refine jo_sysB (Nm1 := Nm) (Nm0 := Nm0) hN hC hGr hs16 h61 k1 k2 k3 k4 k5 k6 k7 (by rw [dA6 _ _ (by omega) (by omega)]; exact y4) (by rw [dA6 _ _ (by omega) (by omega)]; exact y5) (by rw [dA6 _ _ (by omega) (by omega)]; exact y6) (by rw [dA6 _ _ (by omega) (by omega)]; exact y7) h62 l1 l2 l3 l4 l5 gp l6 l7 (by rw [dB6 _ _ (by omega)]; exact s5) (by rw [dB6 _ _ (by omega)]; exact s1) (by rw [dB6 _ _ (by omega)]; exact s2) (by rw [dB6 _ _ (by omega)]; exact s3) h1 h2 hwi hwr hre (fun c hc z => ?_) hwe h65 h66 (by omega) (by omega) hcs0 hNQ
  have hb := bit_tb.mp (hrm c hc)
  rw [Nat.testBit_and, hkb, Nat.testBit_xor, bit_tb.mp z] at hb
  have h16 : Nat.testBit 65535 c = decide (c < 16) := Nat.testBit_two_pow_sub_one 16 c
  have h32 : Nat.testBit 4294967295 c = decide (c < 32) := Nat.testBit_two_pow_sub_one 32 c
  rw [h16, h32] at hb
  by_cases q : c < 16
  · rw [decide_eq_true (show c < 32 by omega)] at hb
    simp at hb
  · rw [decide_eq_false q] at hb
    simp at hb
end Par
