/-! ===== a system: behind its head ===== -/
/-- the record with a system told, and with all that its head says -/
def esE (E : Nat → Nat → Nat) : Nat → Nat → Nat := upE (upE (upE (upE E 0 0 (E 0 0 + 1)) 2 (E 0 0) 3) 3 (E 0 0) (E 17 0)) 17 0 (E 17 0 + 1)
def efE (E : Nat → Nat → Nat) (af ea wi wr re cs bo gr gc : Nat) : Nat → Nat → Nat := upE (upE (upE (upE (upE (upE (upE (upE (upE (esE E) 22 (E 17 0) af) 18 (E 17 0) ea) 19 (E 17 0) wi) 20 (E 17 0) wr) 21 (E 17 0) re) 23 (E 17 0) cs) 24 (E 17 0) bo) 25 (E 17 0) gr) 26 0 gc
/-- the class behind a head -/
def syK (N : Nat) (H59 : Hp) : Option (Ot Unit × Hp) :=
    rf (H59.P 8 1) fun a62 =>
    rf (H59.P 8 2) fun a64 =>
    ck (H59.sh[a62]? = some (6, 0)) <|
    bC (F_Body_open N a62 a64 H59) fun v68 H69 =>
    rf (H69.P 8 1) fun a70 =>
    ck (H69.sh[a70]? = some (6, 0)) <|
    bT ((X_BodyS N 24) a70 H69) fun v74 H75 =>
    rf (H75.P 8 2) fun a78 =>
    ck (H75.sh[a78]? = some (4, 0)) <|
    bC (F_Program_add N a78 (0 : Int32) H75) fun v82 H83 =>
    some (.inl (), H83)
/-- the head's end -/
def syT (N p : Nat) (l1 v87 : Int32) (H88 : Hp) : Option (Ot Unit × Hp) :=
    ar H88 100 (p + 188) fun n90 =>
    ck (inb l1 n90) <|
    bnd (H88.sD (p + 188) (l1).toNatClampNeg v87) fun H93 =>
    rf (H93.P 8 2) fun a94 =>
    ck (H93.sh[a94]? = some (4, 0)) <|
    rf (H93.P a94 13) fun a97 =>
    rf (H93.P 8 2) fun a99 =>
    ck (H93.sh[a99]? = some (4, 0)) <|
    bnd ((H93.D a99 17)) fun x102 =>
    ar H93 100 a97 fun n103 =>
    ck (inb l1 n103) <|
    bnd (H93.sD a97 (l1).toNatClampNeg x102) fun H106 =>
    rf (H106.P 8 2) fun a107 =>
    ck (H106.sh[a107]? = some (4, 0)) <|
    bC (F_Program_settleGroup N a107 H106) fun v111 H112 =>
    some (.inl (), H112)
section Par
variable {N p w T : Nat} {L : List (Nat × Nat × Int32 × Bool × Nat)} {g : Nat → Nat} {E : Nat → Nat → Nat} {Nm : Nat → Nat → List Nat} {Pv : Nat → Nat → Int32} {nL lc dp : Nat} {ln : Nat → List Nat} {lk lf : Nat → Nat} {hd : Nat → Int32}
theorem esE_W1 (h : WU p E) (hc : E 17 0 < 16) : W1 (esE E) := by
  obtain ⟨hE, hp, hs, hf⟩ := h
  have h2 := hE.w2.1
  have h3 := hE.w3.1
  have h4 := hE.w4.1
  have e17 : esE E 17 0 = E 17 0 + 1 := rfl
  exact hE.w1.tell (E' := esE E) (so := 3) (n := E 17 0) (by omega) rfl (fun k => rfl) (fun k => rfl) (Nat.le_refl _) (Nat.le_refl _) (Nat.le_refl _) (by rw [e17]; omega) (by omega) (by omega) (fun z => absurd z (by omega)) (fun z => absurd z (by omega)) (fun z => absurd z (by omega)) (fun _ => by rw [e17]; omega)
theorem efE_W {af ea wi wr re cs bo gr gc : Nat} (h : WU p E) (hc : E 17 0 < 16) (h1 : af < 65536) (h2 : ea < 65536) (h3 : wi < 65536) (h4 : wr < 65536) (h5 : re < 65536) : WU p (efE E af ea wi wr re cs bo gr gc) := by
  have hw1 := esE_W1 h hc
  obtain ⟨hE, hp, hs, hf⟩ := h
  obtain ⟨a1, a2⟩ := hE.w5
  refine ⟨WE.mk hE.w2 hE.w3 hE.w4 ⟨?_, fun s hss => ?_⟩ hw1, hp, ?_, hf⟩
  · show E 17 0 + 1 ≤ 16
    omega
  · have hss : s < E 17 0 + 1 := hss
    have e18 : efE E af ea wi wr re cs bo gr gc 18 s = if s = E 17 0 then ea else E 18 s := rfl
    have e19 : efE E af ea wi wr re cs bo gr gc 19 s = if s = E 17 0 then wi else E 19 s := rfl
    have e20 : efE E af ea wi wr re cs bo gr gc 20 s = if s = E 17 0 then wr else E 20 s := rfl
    have e21 : efE E af ea wi wr re cs bo gr gc 21 s = if s = E 17 0 then re else E 21 s := rfl
    have e22 : efE E af ea wi wr re cs bo gr gc 22 s = if s = E 17 0 then af else E 22 s := rfl
    rw [e18, e19, e20, e21, e22]
    by_cases z : s = E 17 0
    · rw [if_pos z, if_pos z, if_pos z, if_pos z, if_pos z]; exact ⟨h2, h3, h4, h5, h1⟩
    · rw [if_neg z, if_neg z, if_neg z, if_neg z, if_neg z]; exact a2 s (by omega)
  · show E 0 0 + 1 = E 4 0 + E 9 0 + E 15 0 + (E 17 0 + 1)
    omega
theorem HA.sD {A : Hp} {i a f : Nat} {v : Int32} (h : HA p T L g E Nm i A) (hp : p = 133 ∨ p = 325) (hW : W1 E) (ha : (p + 182 ≤ a ∧ a ≤ p + 190) ∨ (a = p ∧ f = 15)) : HA p T L g E Nm i (A.sD a f v) := by
  have w56 := hW.1
  obtain ⟨h1, h2, h3, h4⟩ := h
  have hx : exA (SX p) 0 A (A.sD a f v) := exA.rf.sD (decide_eq_true (by omega))
  refine ⟨h1.ex hx (SX_ok hp) (decide_eq_false (by omega)) (decide_eq_false (by omega)) (decide_eq_false (by omega)) (decide_eq_false (by omega)), h2.fr (fun x y z1 z2 => rdw (by omega)) (fun x n z1 z2 z3 => z3.sD (by omega)), ?_, h4⟩
  by_cases z : p = a
  · subst z; rw [rdf (by omega)]; exact h3
  · rw [rdw z]; exact h3
theorem HB.sD {B : Hp} {i a f : Nat} {v : Int32} (h : HB w T L g E Nm i B) (ha : w + 21 ≤ a ∧ a ≤ w + 26) : HB w T L g E Nm i (B.sD a f v) := by
  obtain ⟨h1, h2, h3⟩ := h
  refine ⟨h1.sD (by omega), h2.fr ⟨?_, ?_, ?_⟩ (fun x y z => rdw (by omega)), by rw [rdw (by omega)]; exact h3⟩ <;> (funext f; rw [rdw (by omega)])
theorem ENA.frp {A A' : Hp} (h : ENA A p E Nm Pv) (hE : WE E) (hd : ∀ a f, p ≤ a → A'.D a f = A.D a f) (hn : ∀ a n, p ≤ a → nmd A a n → nmd A' a n) : ENA A' p E Nm Pv := by
  obtain ⟨a1, a2, a3, a4, a5, a6⟩ := h
  exact ⟨EA1.fr a1 (fun a f z1 z2 => hd a f (by omega)) (fun a n z1 z2 z3 => hn a n (by omega) z3), EA2.fr a2 hE (fun a f z => hd a f (by omega)) (fun a n z1 z2 z3 => hn a n (by omega) z3), EA3.fr a3 hE (fun a f z => hd a f (by omega)) (fun a n z1 z2 z3 => hn a n (by omega) z3), EA4.fr a4 (fun a f z => hd a f (by omega)), EA5.fr a5 (fun a f z => hd a f (by omega)), by rw [hd _ _ (by omega)]; exact a6⟩
def opA (A : Hp) (p s : Nat) : Hp := ((((A.sP 9 1 (.ref p)).sD 9 2 (nI s)).sD 9 3 0).sD 9 5 0).sD 9 6 0
theorem jo_sysB {A0 B0 A B : Hp} {i0 j cs af ea wi wr re : Nat} {Nm1 Nm0 : Nat → Nat → List Nat} (hN : 7000 ≤ N) (hC : WU p E) (hGr : GRP E) (hs16 : E 17 0 < 16)
    (hA : HA p T L g (esE E) Nm1 j A) (ea2 : EA2 A p E Nm1) (ea3 : EA3 A p E Nm1) (ea4 : EA4 A p E Pv) (ea5 : ∀ s, s < E 17 0 → A.D (p + 184) s = nI (E 22 s) ∧ A.D (p + 185) s = nI (E 18 s) ∧ A.D (p + 186) s = nI (E 19 s) ∧ A.D (p + 187) s = nI (E 20 s) ∧ A.D (p + 188) s = nI (E 21 s) ∧ A.D (p + 189) s = nI (E 23 s) ∧ A.D (p + 190) s = nI (E 25 s)) (d7 : A.D p 7 = nI (E 17 0 + 1)) (d15 : A.D p 15 = nI (E 26 0)) (d17 : A.D p 17 = nI cs)
    (v4 : A.D (p + 184) (E 17 0) = nI af) (v5 : A.D (p + 185) (E 17 0) = nI ea) (v6 : A.D (p + 186) (E 17 0) = nI wi) (v7 : A.D (p + 187) (E 17 0) = nI wr)
    (hB : HB w T L g (esE E) Nm1 j B) (eb2 : EB2 B w E Nm1) (eb3 : EB3 B w E Nm1) (eb4 : EB4 B w E Pv) (eb5 : ∀ s, s < E 17 0 → B.D (w + 25) s = nI (E 22 s) ∧ B.D (w + 21) s = nI (E 18 s) ∧ B.D (w + 22) s = nI (E 19 s) ∧ B.D (w + 23) s = nI (E 20 s) ∧ B.D (w + 24) s = nI (E 21 s) ∧ B.D (w + 26) s = nI (E 24 s)) (b29 : B.D w 29 = nI (E 17 0 + 1)) (gp : GP E Pv) (b41 : B.D w 41 = 0) (b42 : B.D w 42 = 0)
    (u5 : B.D (w + 25) (E 17 0) = nI af) (u1 : B.D (w + 21) (E 17 0) = nI ea) (u2 : B.D (w + 22) (E 17 0) = nI wi) (u3 : B.D (w + 23) (E 17 0) = nI wr)
    (h1 : af < 65536) (h2 : ea < 65536) (h3 : wi < 65536) (h4 : wr < 65536) (h5 : re < 65536) (hrw : ∀ c, re / 2 ^ c % 2 = 1 → ¬ wr / 2 ^ c % 2 = 1) (hwe : ∀ c, wr / 2 ^ c % 2 = 1 → ea / 2 ^ c % 2 = 1) (hcf : cfr p cs A0 A) (hmf : mfr w i0 B0 B) (hi0 : i0 < j) (hcs : cs + 6 ≤ 2 * tkp L j) (hcs0 : cs ≤ 2 * tkp L i0) (hNQ : NMQ E Nm0 → NMQ (esE E) Nm1) :
    (Out (SD p) (SRd w) w L j A B (bT (syT N p (nI (E 17 0)) (nI re) A) fun _ H => syK N H) (B_MText_system_198 N w (nI (E 17 0)) (w + 24) (nI (E 17 0)) (nI re) B) (fun j _ A' _ B' => PU p w T L g E Nm0 Pv i0 cs A0 B0 j A' B')) := by
  have hp := hC.2.1
  have hE := hC.1
  have hW1 := esE_W1 hC hs16
  have hG := hA.1.1.1
  have hlen := hG.len
  have hP := hA.1.pP hp
  have hj := hA.1.2.2.2.2.2.2.1
  have w56 : E 0 0 + 1 ≤ 56 := hW1.1
  have hGb := hGr.bd
  generalize hgc : (if aln (efE E af ea wi wr re cs j 0 0) (E 17 0) (E 26 0) then E 26 0 + 1 else E 26 0) = gc
  generalize hgr : (if aln (efE E af ea wi wr re cs j 0 0) (E 17 0) (E 26 0) then E 26 0 else E 26 0 - 1) = gr
  have hE' := efE_W (af := af) (ea := ea) (wi := wi) (wr := wr) (re := re) (cs := cs) (bo := j) (gr := gr) (gc := gc) hC hs16 h1 h2 h3 h4 h5
  have haln : aln (efE E af ea wi wr re cs j gr gc) (E 17 0) (E 26 0) = aln (efE E af ea wi wr re cs j 0 0) (E 17 0) (E 26 0) := by
    unfold aln
    rw [any_cg (f := fun o => decide (efE E af ea wi wr re cs j gr gc 25 o + 1 = E 26 0) && apt (efE E af ea wi wr re cs j gr gc) (E 17 0) o) (g := fun o => decide (efE E af ea wi wr re cs j 0 0 25 o + 1 = E 26 0) && apt (efE E af ea wi wr re cs j 0 0) (E 17 0) o) (fun o ho => ?_)]
    show (decide ((if o = E 17 0 then gr else E 25 o) + 1 = E 26 0) && _) = (decide ((if o = E 17 0 then 0 else E 25 o) + 1 = E 26 0) && _)
    rw [if_neg (by omega), if_neg (by omega)]
    rfl
  have hGr' : GRP (efE E af ea wi wr re cs j gr gc) := by
    refine hGr.step rfl (fun x hx => ?_) ?_ ?_
    · have f : ∀ v y : Nat, (if x = E 17 0 then v else y) = y := fun v y => if_neg (by omega)
      exact ⟨f _ _, f _ _, f _ _, f _ _, f _ _⟩
    · rw [haln, hgr]
      show (if E 17 0 = E 17 0 then gr else _) = gr
      rw [if_pos rfl]
    · rw [haln, hgc]; rfl
  -- class
  have hA1 := (hA.sD (v := nI re) (f := E 17 0) hp hW1 (show (p + 182 ≤ p + 188 ∧ p + 188 ≤ p + 190) ∨ _ from Or.inl (by omega))).sD (v := nI cs) (f := E 17 0) hp hW1 (show (p + 182 ≤ p + 189 ∧ p + 189 ≤ p + 190) ∨ _ from Or.inl (by omega))
  have hP1 : isP ((A.sD (p + 188) (E 17 0) (nI re)).sD (p + 189) (E 17 0) (nI cs)) p := hP
  have eS : F_Program_settleGroup N p ((A.sD (p + 188) (E 17 0) (nI re)).sD (p + 189) (E 17 0) (nI cs)) = some ((), (((A.sD (p + 188) (E 17 0) (nI re)).sD (p + 189) (E 17 0) (nI cs)).sD p 15 (nI gc)).sD (p + 190) (E 17 0) (nI gr)) := by
    have hset := ev_settle (N := N) (s := E 17 0) (gc := E 26 0) (E := efE E af ea wi wr re cs j 0 0) hN hP1 hs16 (by rw [rdw (by omega), rdw (by omega)]; exact d7) (by rw [rdw (by omega), rdw (by omega)]; exact d15) hGb.2.1 (by omega) (fun o ho => by
      have e25 : efE E af ea wi wr re cs j 0 0 25 o = E 25 o := by show (if o = E 17 0 then 0 else E 25 o) = _; rw [if_neg (by omega)]
      have := hGb.2.2 o ho
      rw [rdw (by omega), rdw (by omega), e25]; exact ⟨(ea5 o ho).2.2.2.2.2.2, by omega⟩) (fun x hx => by
      have e18 : efE E af ea wi wr re cs j 0 0 18 x = if x = E 17 0 then ea else E 18 x := rfl
      have e20 : efE E af ea wi wr re cs j 0 0 20 x = if x = E 17 0 then wr else E 20 x := rfl
      have e21 : efE E af ea wi wr re cs j 0 0 21 x = if x = E 17 0 then re else E 21 x := rfl
      rw [e18, e20, e21]
      by_cases z : x = E 17 0
      · rw [if_pos z, if_pos z, if_pos z, z, rdw (by omega), rdw (by omega), rdw (by omega), rdw (by omega), rdw (by omega), rds]
        exact ⟨v5, v7, rfl⟩
      · obtain ⟨c1, c2, c3, c4, c5, c6, c7⟩ := ea5 x (by omega)
        rw [if_neg z, if_neg z, if_neg z, rdw (by omega), rdw (by omega), rdw (by omega), rdw (by omega), rdw (by omega), rdf z]
        exact ⟨c2, c4, c5⟩) (by
      have e22 : efE E af ea wi wr re cs j 0 0 22 (E 17 0) = af := by show (if E 17 0 = E 17 0 then af else _) = _; rw [if_pos rfl]
      rw [e22, rdw (by omega), rdw (by omega)]; exact v4) (fun x hx => by
      have hw := (efE_W (af := af) (ea := ea) (wi := wi) (wr := wr) (re := re) (cs := cs) (bo := j) (gr := 0) (gc := 0) hC hs16 h1 h2 h3 h4 h5).1.w5.2 x (show x < E 17 0 + 1 by omega)
      exact ⟨hw.1, hw.2.2.1, hw.2.2.2.1⟩) ((efE_W (af := af) (ea := ea) (wi := wi) (wr := wr) (re := re) (cs := cs) (bo := j) (gr := 0) (gc := 0) hC hs16 h1 h2 h3 h4 h5).1.w5.2 (E 17 0) (show E 17 0 < E 17 0 + 1 by omega)).2.2.2.2
    rw [hset]
    cases hq : aln (efE E af ea wi wr re cs j 0 0) (E 17 0) (E 26 0)
    · rw [hq, if_neg (by decide)] at hgc hgr
      have hne : ¬ E 17 0 = 0 := fun z => by
        unfold aln at hq
        rw [decide_eq_true z, Bool.true_or] at hq
        exact absurd hq (by decide)
      have h1' := hGb.2.1 (by omega)
      have e15 : ((A.sD (p + 188) (E 17 0) (nI re)).sD (p + 189) (E 17 0) (nI cs)).D p 15 = nI gc := by rw [rdw (by omega), rdw (by omega), d15, hgc]
      have esf : ((A.sD (p + 188) (E 17 0) (nI re)).sD (p + 189) (E 17 0) (nI cs)).sD p 15 (nI gc) = (A.sD (p + 188) (E 17 0) (nI re)).sD (p + 189) (E 17 0) (nI cs) := by rw [← e15, sD_self]
      rw [if_neg (by decide), if_neg (by decide), esf, ← hgr]
      congr 3
      obtain ⟨c, hc⟩ : ∃ c, E 26 0 = c + 1 := ⟨E 26 0 - 1, by omega⟩
      rw [hc, nI_m]; rfl
    · rw [hq, if_pos rfl] at hgc hgr
      rw [if_pos rfl, if_pos rfl, ← hgc, ← hgr]
  -- reference
  have hB1 := (hB.sD (v := nI re) (f := E 17 0) (show w + 21 ≤ w + 24 ∧ w + 24 ≤ w + 26 by omega)).sD (v := nI j) (f := E 17 0) (show w + 21 ≤ w + 26 ∧ w + 26 ≤ w + 26 by omega)
  have hT := hB.1.1.1
  generalize hA2e : (((A.sD (p + 188) (E 17 0) (nI re)).sD (p + 189) (E 17 0) (nI cs)).sD p 15 (nI gc)).sD (p + 190) (E 17 0) (nI gr) = A2 at eS
  have hA2 : HA p T L g (esE E) Nm1 j A2 := by rw [← hA2e]; exact (hA1.sD hp hW1 (Or.inr ⟨rfl, rfl⟩)).sD hp hW1 (Or.inl (by omega))
  have dA2 : ∀ a y, ¬ ((p + 188 ≤ a ∧ a ≤ p + 190 ∧ y = E 17 0) ∨ (a = p ∧ y = 15)) → A2.D a y = A.D a y := fun a y hn => by
    have hx : exA (fun a y => decide ((p + 188 ≤ a ∧ a ≤ p + 190 ∧ y = E 17 0) ∨ (a = p ∧ y = 15))) 0 A A2 := by
      rw [← hA2e]
      exact (((exA.rf.sD (decide_eq_true (by omega))).sD (decide_eq_true (by omega))).sD (decide_eq_true (by omega))).sD (decide_eq_true (by omega))
    rw [← hA2e]
    have r : ∀ (X : Hp) (b z : Nat) (v : Int32), ((p + 188 ≤ b ∧ b ≤ p + 190 ∧ z = E 17 0) ∨ (b = p ∧ z = 15)) → (X.sD b z v).D a y = X.D a y := fun X b z v hb => by
      by_cases q : a = b
      · subst q; exact rdf (by omega)
      · exact rdw q
    rw [r _ _ _ _ (by omega), r _ _ _ _ (by omega), r _ _ _ _ (by omega), r _ _ _ _ (by omega)]
  have nA2 : ∀ a n, nmd A a n → nmd A2 a n := fun a n h => by
    rw [← hA2e]
    exact (((h.sD (by omega)).sD (by omega)).sD (by omega)).sD (by omega)
  have hENA : ENA A2 p (efE E af ea wi wr re cs j gr gc) Nm1 Pv := by
    refine ⟨hA2.2.1, ?_, ?_, ?_, ⟨?_, fun s hs => ?_⟩, ?_⟩
    · exact EA2.fr (E := E) (Nm := Nm1) ea2 hE (fun a f z => dA2 a f (by omega)) (fun a n z1 z2 z3 => nA2 a n z3)
    · exact EA3.fr (E := E) (Nm := Nm1) ea3 hE (fun a f z => dA2 a f (by omega)) (fun a n z1 z2 z3 => nA2 a n z3)
    · exact EA4.fr (E := E) (Pv := Pv) ea4 (fun a f z => dA2 a f (by omega))
    · rw [dA2 _ _ (by omega)]; exact d7
    · have hs : s < E 17 0 + 1 := hs
      by_cases z : s = E 17 0
      · have f : ∀ v y : Nat, (if s = E 17 0 then v else y) = v := fun v y => if_pos z
        show _ = nI (if s = E 17 0 then af else _) ∧ _ = nI (if s = E 17 0 then ea else _) ∧ _ = nI (if s = E 17 0 then wi else _) ∧ _ = nI (if s = E 17 0 then wr else _) ∧ _ = nI (if s = E 17 0 then re else _) ∧ _ = nI (if s = E 17 0 then cs else _) ∧ _ = nI (if s = E 17 0 then gr else _)
        rw [f, f, f, f, f, f, f, z, dA2 _ _ (by omega), dA2 _ _ (by omega), dA2 _ _ (by omega), dA2 _ _ (by omega)]
        refine ⟨v4, v5, v6, v7, ?_, ?_, ?_⟩
        · rw [← hA2e, rdw (by omega), rdw (by omega), rdw (by omega), rds]
        · rw [← hA2e, rdw (by omega), rdw (by omega), rds]
        · rw [← hA2e, rds]
      · have f : ∀ v y : Nat, (if s = E 17 0 then v else y) = y := fun v y => if_neg z
        show _ = nI (if s = E 17 0 then af else E 22 s) ∧ _ = nI (if s = E 17 0 then ea else E 18 s) ∧ _ = nI (if s = E 17 0 then wi else E 19 s) ∧ _ = nI (if s = E 17 0 then wr else E 20 s) ∧ _ = nI (if s = E 17 0 then re else E 21 s) ∧ _ = nI (if s = E 17 0 then cs else E 23 s) ∧ _ = nI (if s = E 17 0 then gr else E 25 s)
        rw [f, f, f, f, f, f, f, dA2 _ _ (by omega), dA2 _ _ (by omega), dA2 _ _ (by omega), dA2 _ _ (by omega), dA2 _ _ (by omega), dA2 _ _ (by omega), dA2 _ _ (by omega)]
        exact ea5 s (by omega)
    · rw [← hA2e, rdw (by omega), rds]; rfl
  have hENB : ENB ((B.sD (w + 24) (E 17 0) (nI re)).sD (w + 26) (E 17 0) (nI j)) w (efE E af ea wi wr re cs j gr gc) Nm1 Pv := by
    have hl : ltr w B ((B.sD (w + 24) (E 17 0) (nI re)).sD (w + 26) (E 17 0) (nI j)) := by refine ⟨?_, ?_, ?_⟩ <;> (funext f; rw [rdw (by omega), rdw (by omega)])
    refine ⟨hB1.2.1, ?_, ?_, ?_, ⟨?_, fun s hs => ?_⟩⟩
    · exact EB2.fr (E := E) (Nm := Nm1) eb2 hl (fun a f z => by rw [rdw (by omega), rdw (by omega)])
    · exact EB3.fr (E := E) (Nm := Nm1) eb3 hl (fun a f z => by rw [rdw (by omega), rdw (by omega)])
    · exact EB4.fr (E := E) (Pv := Pv) eb4 (fun a f z => by rw [rdw (by omega), rdw (by omega)])
    · rw [rdw (by omega), rdw (by omega)]; exact b29
    · have hs : s < E 17 0 + 1 := hs
      show _ = nI (if s = E 17 0 then af else E 22 s) ∧ _ = nI (if s = E 17 0 then ea else E 18 s) ∧ _ = nI (if s = E 17 0 then wi else E 19 s) ∧ _ = nI (if s = E 17 0 then wr else E 20 s) ∧ _ = nI (if s = E 17 0 then re else E 21 s) ∧ _ = nI (if s = E 17 0 then j else E 24 s)
      rw [rdw (show w + 25 ≠ w + 26 by omega), rdw (show w + 25 ≠ w + 24 by omega), rdw (show w + 21 ≠ w + 26 by omega), rdw (show w + 21 ≠ w + 24 by omega), rdw (show w + 22 ≠ w + 26 by omega), rdw (show w + 22 ≠ w + 24 by omega), rdw (show w + 23 ≠ w + 26 by omega), rdw (show w + 23 ≠ w + 24 by omega), rdw (show w + 24 ≠ w + 26 by omega)]
      by_cases z : s = E 17 0
      · have f : ∀ v y : Nat, (if s = E 17 0 then v else y) = v := fun v y => if_pos z
        rw [f, f, f, f, f, f, z, rds, rds]
        exact ⟨u5, u1, u2, u3, rfl, rfl⟩
      · have f : ∀ v y : Nat, (if s = E 17 0 then v else y) = y := fun v y => if_neg z
        rw [f, f, f, f, f, f, rdf z, rdf z, rdw (show w + 26 ≠ w + 24 by omega)]
        exact eb5 s (by omega)
  have x17 : efE E af ea wi wr re cs j gr gc 17 0 = E 17 0 + 1 := rfl
  have x0 : efE E af ea wi wr re cs j gr gc 0 0 = E 0 0 + 1 := rfl
  have x23 : efE E af ea wi wr re cs j gr gc 23 (E 17 0) = cs := by show (if E 17 0 = E 17 0 then cs else _) = _; rw [if_pos rfl]
  have x24 : efE E af ea wi wr re cs j gr gc 24 (E 17 0) = j := by show (if E 17 0 = E 17 0 then j else _) = _; rw [if_pos rfl]
  have x21 : efE E af ea wi wr re cs j gr gc 21 (E 17 0) = re := by show (if E 17 0 = E 17 0 then re else _) = _; rw [if_pos rfl]
  have x20 : efE E af ea wi wr re cs j gr gc 20 (E 17 0) = wr := by show (if E 17 0 = E 17 0 then wr else _) = _; rw [if_pos rfl]
  have x18 : efE E af ea wi wr re cs j gr gc 18 (E 17 0) = ea := by show (if E 17 0 = E 17 0 then ea else _) = _; rw [if_pos rfl]
  have xX : ExtE E (efE E af ea wi wr re cs j gr gc) := by
    refine ⟨Nat.le_refl _, fun _ _ => rfl, fun _ _ => rfl, Nat.le_refl _, fun _ _ => rfl, fun _ _ => rfl, fun _ _ _ _ => rfl, Nat.le_refl _, fun _ _ => rfl, ?_, fun s hs => ?_, Nat.le_refl _⟩
    · rw [x17]; omega
    · have f : ∀ v y : Nat, (if s = E 17 0 then v else y) = y := fun v y => if_neg (by omega)
      exact ⟨f _ _, f _ _, f _ _, f _ _, f _ _, f _ _, f _ _, f _ _⟩
  have xG : GP (efE E af ea wi wr re cs j gr gc) Pv := gp
  have hd1 : A2.D p 1 = nI (efE E af ea wi wr re cs j gr gc 0 0) := hA2.2.2.1
  have xN : NMQ E Nm0 → NMQ (efE E af ea wi wr re cs j gr gc) Nm1 := hNQ
  generalize efE E af ea wi wr re cs j gr gc = F at xN hE' hGr' hENA hENB x17 x0 x23 x24 xX xG hd1 x21 x20 x18
  have hG2 := hA2.1.1.1
  have hlen2 := hG2.len
  have hP2 := hA2.1.pP hp
  have d72 : A2.D p 7 = nI (E 17 0 + 1) := by rw [dA2 _ _ (by omega)]; exact d7
  have d172 : A2.D p 17 = nI cs := by rw [dA2 _ _ (by omega)]; exact d17
  have hcf2 : cfr p cs A0 A2 := fun x hx => by rw [dA2 _ _ (by omega)]; exact hcf x hx
  have hx2 : exA (SD p) 0 A A2 := by
    rw [← hA2e]
    exact (((exA.rf.sD (decide_eq_true (by omega))).sD (decide_eq_true (by omega))).sD (decide_eq_true (by omega))).sD (decide_eq_true (by omega))
  -- both reach the body
  unfold syT B_MText_system_198
  rw [ar_t (PrA_12 hP), wrI (show E 17 0 < 16 from hs16) (by decide), sD_P, rf_t hA.2.2.2, ck_t (show (A.sD (p + 188) (E 17 0) (nI re)).sh[p]? = some (4, 0) from (PrS hP : A.sh[p]? = some (4, 0))), rf_t (PrP_13 hP), rf_t hA.2.2.2, ck_t (show (A.sD (p + 188) (E 17 0) (nI re)).sh[p]? = some (4, 0) from (PrS hP : A.sh[p]? = some (4, 0))), bnd_t, rdw (show p ≠ p + 188 by omega), d17, ar_sD, ar_t (PrA_13 hP), wrI (show E 17 0 < 16 from hs16) (by decide), sD_P, sD_P, rf_t hA.2.2.2, ck_t (show ((A.sD (p + 188) (E 17 0) (nI re)).sD (p + 189) (E 17 0) (nI cs)).sh[p]? = some (4, 0) from (PrS hP : A.sh[p]? = some (4, 0))), bC_t eS, bT_v, ar_t (TA_33 hT), wrI (show E 17 0 < 16 from hs16) (by decide), ck_t (show (B.sD (w + 24) (E 17 0) (nI re)).sh[w]? = some (14, 0) from (TS hT : B.sh[w]? = some (14, 0))), sD_P, rf_t (TP_35 hT), bnd_t, rdw (show w ≠ w + 24 by omega), hB.1.2.2.1, ar_sD, ar_t (TA_35 hT), wrI (show E 17 0 < 16 from hs16) (by decide)]
  have hmf2 : mfr w i0 B0 ((B.sD (w + 24) (E 17 0) (nI re)).sD (w + 26) (E 17 0) (nI j)) := fun t ht => by
    rw [rdw (by omega), rdw (by omega), rdw (by omega), rdw (by omega)]; exact hmf t ht
  have hsb2 : same (SRd w) B ((B.sD (w + 24) (E 17 0) (nI re)).sD (w + 26) (E 17 0) (nI j)) := (same.rf.sD (by unfold SRd; omega)).sD (by unfold SRd; omega)
  have b41' : ((B.sD (w + 24) (E 17 0) (nI re)).sD (w + 26) (E 17 0) (nI j)).D w 41 = 0 := by rw [rdw (by omega), rdw (by omega)]; exact b41
  have b42' : ((B.sD (w + 24) (E 17 0) (nI re)).sD (w + 26) (E 17 0) (nI j)).D w 42 = 0 := by rw [rdw (by omega), rdw (by omega)]; exact b42
  have hB1l := hB1.1
  have hB137 := hB1.2.2
  generalize (B.sD (w + 24) (E 17 0) (nI re)).sD (w + 26) (E 17 0) (nI j) = B2 at hENB hmf2 hsb2 b41' b42' hB1l hB137
  have hA2l := hA2.1
  have hA28 := hA2.2.2.2
  refine Out.pre (i := j) (j := j) (k := 0) (A1 := A2) (B1 := B2) ?_ hx2 hsb2 (Nat.le_refl _) hj (by omega)
  clear eS hA2e hA1 hP1 hB1 haln hgc hgr hA2 nA2 dA2 ea2 ea3 ea4 ea5 v4 v5 v6 v7 eb2 eb3 eb4 eb5 u5 u1 u2 u3
  have eO : F_Body_open N 9 p A2 = some ((), opA A2 p (E 17 0)) := by
    unfold F_Body_open
    rw [ck_t (rS_9 hG2), bnd_t, ck_t (show (A2.sP 9 1 (.ref p)).sh[p]? = some (4, 0) from (PrS hP2 : A2.sh[p]? = some (4, 0))), bnd_t, sP_D, d72, nI_m, bnd_t, bnd_t, bnd_t, bnd_t]
    rfl
  have hxO : exA (SX p) 0 A2 (opA A2 p (E 17 0)) := ((((exA.rf.sP (decide_eq_true (by omega))).sD (decide_eq_true (by omega))).sD (decide_eq_true (by omega))).sD (decide_eq_true (by omega))).sD (decide_eq_true (by omega))
  have dO : ∀ a f, a ≠ 9 → (opA A2 p (E 17 0)).D a f = A2.D a f := fun a f h => by
    unfold opA
    rw [rdw h, rdw h, rdw h, rdw h, sP_D]
  have hJA : JA p T L g F Nm1 Pv 0 0 0 (fun _ => []) (fun _ => 0) (fun _ => 0) (fun _ => -1) j cs (opA A2 p (E 17 0)) := by
    refine ⟨hA2l.ex hxO (SX_ok hp) (decide_eq_false (by omega)) (decide_eq_false (by omega)) (decide_eq_false (by omega)) (decide_eq_false (by omega)), hENA.frp hE'.1 (fun a f h => dO a f (by omega)) (fun a n h q => ?_), ?_, ?_, ?_, ?_, ?_, ?_, ?_, fun k hk => absurd hk (by omega), fun l hl => absurd hl (by omega)⟩
    · unfold opA
      exact ((((q.sP (by omega) (Or.inr (by decide))).sD (by omega)).sD (by omega)).sD (by omega)).sD (by omega)
    · show (A2.sP 9 1 (.ref p)).P 9 1 = _
      exact sP_s
    · rw [x17]
      unfold opA
      rw [rdf (by decide), rdf (by decide), rdf (by decide), rds]; rfl
    · unfold opA
      rw [rdf (by decide), rdf (by decide), rds]; rfl
    · unfold opA
      rw [rdf (by decide), rds]; rfl
    · unfold opA
      rw [rds]; rfl
    · rw [dO _ _ (by omega)]; exact hd1
    · rw [dO _ _ (by omega)]; exact d172
  have hJB : JB w T L g F Nm1 Pv 0 0 0 (fun _ => []) (fun _ => 0) (fun _ => 0) (fun _ => -1) j B2 := ⟨hB1l, hENB, hB137, b41', ⟨0, by decide, b42', fun e he => ⟨fun z => by rw [Nat.zero_div] at z; exact absurd z (by decide), fun ⟨l, hl, _⟩ => absurd hl (by omega)⟩⟩, fun k hk => absurd hk (by omega)⟩
  have hCX : CX p F Nm1 0 0 0 (fun _ => []) (fun _ => 0) (fun _ => 0) (fun _ => -1) := ⟨hE'.1, hp, by rw [x17]; omega, by decide, by decide, by decide, fun k hk => absurd hk (by omega), fun k l _ hl => absurd hl (by omega), fun l hl => absurd hl (by omega)⟩
  have h82O : (opA A2 p (E 17 0)).P 8 2 = .ref p := by
    show (A2.sP 9 1 (.ref p)).P 8 2 = _
    rw [sP_o (Or.inl (by decide))]; exact hA28
  have hGO := hJA.1.1.1
  have hlenO := hGO.len
  have h60 : ∀ t, t < L.length → tkp L t ≤ 6000 := fun t ht => by have := (hB1l.2.2.2.2.2.2.2.2.2.1 t ht).1; have := hB1l.2.2.2.2.2.2.2.1; omega
  have hp0 := pos_ij hB1l (show i0 ≤ j by omega) hj
  unfold syK
  rw [rf_t (rP_8_1 hG2), rf_t hA28, ck_t (rS_9 hG2), bC_t eO, rf_t (rP_8_1 hGO), ck_t (rS_9 hGO)]
  refine Out.pre (i := j) (j := j) (k := 0) (A1 := opA A2 p (E 17 0)) (B1 := B2) ?_ (hxO.mono SX_SD (Nat.le_refl _)) same.rf (Nat.le_refl _) hj (by omega)
  refine Out.bind ((jo_body hN 0 0 _ _ _ _ hCX j cs _ _ hJA hJB hcs).keep.up37 (fun y B' h => st_37 (N := N) (o := X_TextS N 23) h)) ?_ (fun y B' k p0 hz => ⟨(), B', rfl, hz, same.rf⟩)
  intro j6 v6 A6 y6 B6 hij6 hxa6 hsb6 hQ
  obtain ⟨hx6, cs6, hA6, hB6, hlt6, hc6, hcost6, hcf6, hmf6, hds6⟩ := hQ
  have hP6 := hA6.pP hCX
  have hj6 := hA6.1.2.2.2.2.2.2.1
  have h606 := h60 j6 hj6
  have h826 : A6.P 8 2 = .ref p := by rw [(hx6.2.2.2 8 2 (by omega) (decide_eq_false (by omega))).2]; exact h82O
  have hA7 := hA6.add (v := 0) hCX
  rw [rf_t h826, ck_t (PrS hP6), bC_t (ev_add hA6 hP6 (by omega))]
  have hx7 : exA (SD p) 0 A6 (addA A6 p cs6 0) := (add_ex (n := F 0 0)).mono SBo_SD (Nat.le_refl _)
  refine Out.pre (i := j6) (j := j6) (k := 0) (A1 := addA A6 p cs6 0) (B1 := B6) ?_ hx7 same.rf (Nat.le_refl _) hj6 (by omega)
  refine Out.ok hj6 ⟨F, Nm1, Pv, cs6 + 1, ⟨hA7.1, hA7.2.1, hA7.2.2.2.2.2.2.2.1, hA7.2.2.2.2.2.2.2.2.1, h826⟩, ⟨hB6.1, hB6.2.1, hB6.2.2.1, xG⟩, hE', xX, fun _ _ _ => rfl, by omega, by omega, by omega, fun x hx => ?_, fun t ht => ?_, xN, Or.inr ⟨x17, ⟨hGr', by rw [x21, x20]; exact hrw, by rw [x20, x18]; exact hwe⟩, x23, j6, cs6, fun _ => 0, fun _ => -1, by rw [x24]; omega, by rw [x24]; omega, Nat.le_refl _, rfl, hc6, ?_, fun cd mn nu hag => ?_⟩⟩
  · rw [code_add, if_neg (by omega), hcf6 x hx, dO _ _ (by omega)]; exact hcf2 x hx
  · rw [(hmf6 t (by omega)).1, (hmf6 t (by omega)).2]; exact hmf2 t ht
  · rw [code_add, if_pos rfl]
  · rw [x24] at hag ⊢
    exact hds6 cd mn nu ⟨fun x a b => by rw [hag.1 x a b, code_add, if_neg (by omega)], hag.2⟩
end Par
