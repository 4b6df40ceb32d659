/-! ===== a text read alike ===== -/
theorem wr0 {α : Type} {H : Hp} {a n : Nat} {v : Int32} {K : Hp → Option α} (h : 0 < n) (hn : n ≤ 2147483647) : ck (inb (0 : Int32) n) (bnd (H.sD a ((0 : Int32)).toNatClampNeg v) K) = K (H.sD a 0 v) := wrI (i := 0) h hn
theorem same.exA {R : Nat → Nat → Prop} {S : Nat → Nat → Bool} {A A' : Hp} (h : same R A A') (hS : ∀ a f, S a f = false → ¬ R a f) : exA S 0 A A' := by
  obtain ⟨h1, h2, h3, h4, h5⟩ := h
  exact ⟨⟨[], by rw [h4]; simp, by simp⟩, by rw [h5]; omega, by rw [h5]; omega, fun a f _ hs => ⟨h1 a f (hS a f hs), by rw [h2]⟩⟩
def SRA (p a f : Nat) : Bool := SD1 p a f || decide ((a = 8 ∧ f = 2) ∨ a = 3 ∨ a = 4 ∨ a = 5 ∨ a = 6 ∨ (a = 1 ∧ f = 10))
def SRB (w a f : Nat) : Prop := SRd w a f ∨ scaS w a f
theorem SRA_o {p : Nat} : ∀ a f, SRA p a f = false → SD1 p a f = false ∧ ¬ ((a = 8 ∧ f = 2) ∨ a = 3 ∨ a = 4 ∨ a = 5 ∨ a = 6 ∨ (a = 1 ∧ f = 10)) := fun a f h => by
  unfold SRA at h
  rw [Bool.or_eq_false_iff] at h
  exact ⟨h.1, of_decide_eq_false h.2⟩
def clA (A : Hp) (p : Nat) : Hp := ((((((((A.sD p 1 0).sD (p + 70) 3 0).sD (p + 137) 0 0).sD (p + 138) 3 0).sD (p + 181) 0 0).sD p 4 0).sD p 7 0).sD p 15 0).sD p 17 0
def rdB (B : Hp) (w : Nat) : Hp := ((((((((B.sD w 9 0).sD w 10 0).sD w 11 0).sD w 12 0).sD w 16 0).sD (w + 12) 0 0).sD w 21 0).sD w 26 0).sD w 29 0
/-- nothing was declared yet -/
theorem WU_0 {p : Nat} (hp : p = 133 ∨ p = 325) : WU p (fun _ _ => 0) := by
  refine ⟨WE.mk ⟨by decide, rfl, fun c hc => absurd hc (Nat.not_lt_zero _), by decide, fun m hm => absurd hm (Nat.not_lt_zero _)⟩ ⟨by decide, rfl, fun c hc => absurd hc (Nat.not_lt_zero _), fun c q hc => absurd hc (Nat.not_lt_zero _)⟩ ⟨by decide, fun c hc => absurd hc (Nat.not_lt_zero _)⟩ ⟨by decide, fun c hc => absurd hc (Nat.not_lt_zero _)⟩ ⟨by decide, fun c hc => absurd hc (Nat.not_lt_zero _)⟩, hp, rfl, fun f hf => absurd hf (Nat.not_lt_zero _)⟩
section Par
variable {N p w T : Nat} {L : List (Nat × Nat × Int32 × Bool × Nat)} {g : Nat → Nat} {E : Nat → Nat → Nat} {Nm : Nat → Nat → List Nat} {Pv : Nat → Nat → Int32} {nL lc dp : Nat} {ln : Nat → List Nat} {lk lf : Nat → Nat} {hd : Nat → Int32}
theorem ev_clear {A : Hp} (hP : isP A p) : F_Program_clear N p A = some ((), clA A p) := by
  unfold F_Program_clear F_Shapes_clear
  rw [ck_t (PrS hP), bnd_t, sD_P, rf_t (PrP_2 hP), ck_t (show (A.sD p 1 0).sh[p + 70]? = some (3, 0) from (PrA_2 hP : A.sh[p + 70]? = some (3, 0))), ck_t (show (A.sD p 1 0).sh[p + 70]? = some (3, 0) from (PrA_2 hP : A.sh[p + 70]? = some (3, 0))), bnd_t, sD_P, sD_P, rf_t (PcP_2 hP), ar_sD, ar_sD, ar_t (PcA_2 hP), wr0 (by decide) (by decide), bC_v, sD_P, sD_P, sD_P, rf_t (PrP_3 hP), ck_t (show (((A.sD p 1 0).sD (p + 70) 3 0).sD (p + 137) 0 0).sh[p + 138]? = some (3, 0) from (PrA_3 hP : A.sh[p + 138]? = some (3, 0))), ck_t (show (((A.sD p 1 0).sD (p + 70) 3 0).sD (p + 137) 0 0).sh[p + 138]? = some (3, 0) from (PrA_3 hP : A.sh[p + 138]? = some (3, 0))), bnd_t, sD_P, sD_P, sD_P, sD_P, rf_t (PeP_2 hP), ar_sD, ar_sD, ar_sD, ar_sD, ar_t (PeA_2 hP), wr0 (by decide) (by decide), bC_v, bnd_t, bnd_t, bnd_t, bnd_t]
  rfl
theorem jo_readAll {A B : Hp} (hp : p = 133 ∨ p = 325) (hTA : TA A T g) (hSt : StA A) (hTM : TM B T g) (hTw : isT B w) (hw1 : w + 1 ≠ 518) (hw2 : w ≠ 518) (h37 : B.D w 37 = 0) (hN : 7000 ≤ N) :
    (∃ A' B' k p0, F_Reader_readAll N 8 p A = some (0, A') ∧ F_MText_reads N w 518 (nI T) B = some ((), B') ∧ A'.D 1 4 = nI k ∧ A'.D 1 5 = nI p0 ∧ Zf B' w k p0 ∧ exA (SRA p) (2 * (T + 2)) A A' ∧ same (SRB w) B B' ∧ A'.D 1 1 = 0 ∧ B'.D w 37 = 0) ∨
    ∃ A' B', F_Reader_readAll N 8 p A = some (1, A') ∧ F_MText_reads N w 518 (nI T) B = some ((), B') ∧ exA (SRA p) (2 * (T + 2)) A A' ∧ same (SRB w) B B' ∧ A'.D 1 1 = 0 ∧ A'.D 1 4 = 0 ∧ RDok p w T (lexL g T) g A' B' := by
  have hG := hTA.1
  have hlen := hG.len
  have hLx := lexL_ok (g := g) (T := T) hTA.2.2.1 hTA.2.2.2.2.2
  -- class: the program is emptied
  have hx1 : exA (fun a f => decide (a = 8 ∧ f = 2)) 0 A (A.sP 8 2 (.ref p)) := exA.rf.sP (by decide)
  have hG1 : Gr (A.sP 8 2 (.ref p)) := hx1.gr hG (by decide +kernel)
  have hP1 : isP (A.sP 8 2 (.ref p)) p := by
    rcases hp with rfl | rfl
    · exact gr_P133 hG1
    · exact gr_P325 hG1
  have hx2 : exA (SX p) 0 (A.sP 8 2 (.ref p)) (clA (A.sP 8 2 (.ref p)) p) := ((((((((exA.rf.sD (decide_eq_true (by omega))).sD (decide_eq_true (by omega))).sD (decide_eq_true (by omega))).sD (decide_eq_true (by omega))).sD (decide_eq_true (by omega))).sD (decide_eq_true (by omega))).sD (decide_eq_true (by omega))).sD (decide_eq_true (by omega))).sD (decide_eq_true (by omega))
  have hG2 : Gr (clA (A.sP 8 2 (.ref p)) p) := hG1
  have d2 : ∀ a f, a < p → (clA (A.sP 8 2 (.ref p)) p).D a f = A.D a f := fun a f h => by
    unfold clA
    rw [rdw (by omega), rdw (by omega), rdw (by omega), rdw (by omega), rdw (by omega), rdw (by omega), rdw (by omega), rdw (by omega), rdw (by omega), sP_D]
  have hTA2 : TA (clA (A.sP 8 2 (.ref p)) p) T g := ⟨hG2, by rw [d2 _ _ (by omega)]; exact hTA.2.1, hTA.2.2.1, fun i hi => by rw [d2 _ _ (by omega)]; exact hTA.2.2.2.1 i hi, hTA.2.2.2.2⟩
  have hSt2 : StA (clA (A.sP 8 2 (.ref p)) p) := fun x hx => by rw [d2 _ _ (by omega)]; exact hSt x hx
  obtain ⟨A3, f1, f2, f3, f4, f5, f6, f7, f8, f9, f10, f11⟩ := tk_begin hTA2 hSt2 hN
  have e8 : (A.sP 8 2 (.ref p)).P 8 2 = .ref p := sP_s
  have eA : F_Reader_readAll N 8 p A = B_Reader_readAll_23 N 8 p N 1 (nI 0) A3 := by
    unfold F_Reader_readAll
    rw [ck_t (rS_8 hG), bnd_t, rf_t e8, ck_t (PrS hP1), bC_t (ev_clear hP1), rf_t (rP_8_0 hG2), ck_t (rS_1 hG2), bC_t f1]
    rfl
  have hx3 : exA (SRA p) 0 (clA (A.sP 8 2 (.ref p)) p) A3 := f2.exA (fun a f h z => by
    obtain ⟨q1, q2⟩ := SRA_o a f h
    have q3 := of_decide_eq_false (SD_SD1 a f q1)
    unfold begS at z
    omega)
  have hxA : exA (SRA p) 0 A A3 := by
    refine ((hx1.mono (fun a f h => decide_eq_false (fun z => (SRA_o a f h).2 (Or.inl z))) (Nat.le_refl _)).tr (hx2.mono (fun a f h => SX_SD a f (SD_SD1 a f (SRA_o a f h).1)) (Nat.le_refl _))).tr hx3
  have dA3 : ∀ a f, ¬ begS a f → A3.D a f = (clA (A.sP 8 2 (.ref p)) p).D a f := fun a f h => f2.1 a f h
  have hG3 : Gr A3 := f2.gr hG2
  have hLA : LA A3 (lexL g T) T g 0 := by
    have ht0 := tokA_at f3 hLx.1
    refine ⟨⟨hG3, ?_, hTA.2.2.1, fun i hi => ?_, hTA.2.2.2.2⟩, f3, ⟨f4, f8⟩, f5, by rw [f6, ht0.1], by rw [f7, ht0.2.1], hLx.1, hLx⟩
    · rw [dA3 _ _ (by unfold begS; omega)]; exact hTA2.2.1
    · rw [dA3 _ _ (by unfold begS; omega)]; exact hTA2.2.2.2.1 i hi
  have hUA : UA p T (lexL g T) g (fun _ _ => 0) (fun _ _ => []) (fun _ _ => 0) 0 0 A3 := by
    have z : ∀ a f, p ≤ a → (clA (A.sP 8 2 (.ref p)) p).D a f = 0 → A3.D a f = nI 0 := fun a f h q => by rw [dA3 _ _ (by unfold begS; omega), q]; rfl
    refine ⟨hLA, ⟨fun k hk => absurd hk (Nat.not_lt_zero _), ⟨z _ _ (by omega) ?_, fun c hc => ?_, fun m hm => absurd hm (Nat.not_lt_zero _), fun c hc => absurd hc (Nat.not_lt_zero _)⟩, ⟨z _ _ (by omega) ?_, fun c hc => ?_, fun m q hm => absurd hm (Nat.not_lt_zero _), fun c hc => absurd hc (Nat.not_lt_zero _)⟩, ⟨z _ _ (by omega) ?_, fun c hc => absurd hc (Nat.not_lt_zero _)⟩, ⟨z _ _ (by omega) ?_, fun c hc => absurd hc (Nat.not_lt_zero _)⟩, z _ _ (by omega) ?_⟩, z _ _ (by omega) ?_, z _ _ (by omega) ?_, ?_⟩
    · unfold clA; rw [rdw (by omega), rdw (by omega), rdw (by omega), rdw (by omega), rdw (by omega), rdw (by omega), rdw (by omega), rds]
    · have hc : c = 0 := Nat.le_zero.mp hc
      rw [hc]
      refine z _ _ (by omega) ?_
      unfold clA; rw [rdw (by omega), rdw (by omega), rdw (by omega), rdw (by omega), rdw (by omega), rdw (by omega), rds]
    · unfold clA; rw [rdw (by omega), rdw (by omega), rdw (by omega), rdw (by omega), rdw (by omega), rds]
    · have hc : c = 0 := Nat.le_zero.mp hc
      rw [hc]
      refine z _ _ (by omega) ?_
      unfold clA; rw [rdw (by omega), rdw (by omega), rdw (by omega), rdw (by omega), rds]
    · unfold clA; rw [rdf (by decide), rdf (by decide), rdf (by decide), rds]
    · unfold clA; rw [rdf (by decide), rdf (by decide), rds]
    · unfold clA; rw [rdf (by decide), rds]
    · unfold clA; rw [rdf (by decide), rdf (by decide), rdf (by decide), rdf (by decide), rdw (by omega), rdw (by omega), rdw (by omega), rdw (by omega), rds]
    · unfold clA; rw [rds]
    · rw [f2.2.1]
      show (A.sP 8 2 (.ref p)).P 8 2 = _
      exact e8
  -- reference: scanned
  obtain ⟨B1, g1, g2, g3, g4, g5⟩ := tk_scans (N := N) hw1 hw2 hTM hTw hN
  have hT1 := g3.1
  have eB : F_MText_reads N w 518 (nI T) B = B_MText_reads_53 N w 518 (nI T) N (rdB B1 w) := by
    unfold F_MText_reads
    rw [ck_t (TS hTw), bC_t g1, bnd_t, bnd_t, bnd_t, bnd_t, bnd_t, sD_P, sD_P, sD_P, sD_P, sD_P, rf_t (TP_18 hT1), ar_sD, ar_sD, ar_sD, ar_sD, ar_sD, ar_t (TA_18 hT1), wr0 (by decide) (by decide), bnd_t, bnd_t, bnd_t]
    rfl
  have hsR : same (fun a f => (a = w ∧ (f = 9 ∨ f = 10 ∨ f = 11 ∨ f = 12 ∨ f = 16 ∨ f = 21 ∨ f = 26 ∨ f = 29)) ∨ (a = w + 12 ∧ f = 0)) B1 (rdB B1 w) := ((((((((same.rf.sD (by omega)).sD (by omega)).sD (by omega)).sD (by omega)).sD (by omega)).sD (by omega)).sD (by omega)).sD (by omega)).sD (by omega)
  have hsB : same (SRB w) B (rdB B1 w) := (g2.mono (fun a f z => Or.inr z)).tr (hsR.mono (fun a f z => Or.inl (by unfold SRd; omega)))
  have h37' : (rdB B1 w).D w 37 = 0 := by rw [hsR.1 _ _ (by omega), g2.1 _ _ (by unfold scaS; omega)]; exact h37
  have hUB : UB w T (lexL g T) g (fun _ _ => 0) (fun _ _ => []) (fun _ _ => 0) 0 (rdB B1 w) := by
    obtain ⟨v1, v2, v3, v4, v5, v6⟩ := g3
    refine ⟨⟨⟨same_isT hsR v1, by rw [hsR.1 _ _ (by omega)]; exact v2, v3, fun i hi => by rw [hsR.1 _ _ (by omega)]; exact v4 i hi, v5, v6⟩, fun j hj => ?_, ?_, ?_, hLx.1, hLx⟩, ⟨⟨?_, fun k hk => absurd hk (Nat.not_lt_zero _)⟩, ⟨?_, fun c hc => ?_, fun m hm => absurd hm (Nat.not_lt_zero _), fun c hc => absurd hc (Nat.not_lt_zero _)⟩, ⟨?_, fun c hc => absurd hc (Nat.not_lt_zero _), fun m q hm => absurd hm (Nat.not_lt_zero _), fun c hc => absurd hc (Nat.not_lt_zero _)⟩, ⟨?_, fun c hc => absurd hc (Nat.not_lt_zero _)⟩, ⟨?_, fun c hc => absurd hc (Nat.not_lt_zero _)⟩⟩, h37', fun f c m hf => absurd hf (Nat.not_lt_zero _)⟩
    · obtain ⟨t1, t2, t3, t4, t5, t6⟩ := tokM_at g5 hj
      rw [hsR.1 _ _ (by omega), hsR.1 _ _ (by omega), hsR.1 _ _ (by omega), hsR.1 _ _ (by omega), hsR.1 _ _ (by omega)]
      exact ⟨t1, t2, t3, t4, t6⟩
    · unfold rdB; rw [rdf (by decide), rdf (by decide), rdf (by decide), rdw (by omega), rdf (by decide), rdf (by decide), rds]; rfl
    · unfold rdB; rw [rdf (by decide), rdf (by decide), rdf (by decide), rdw (by omega), rdf (by decide), rdf (by decide), rdf (by decide), rdf (by decide), rds]
    · unfold rdB; rw [rdf (by decide), rdf (by decide), rdf (by decide), rdw (by omega), rdf (by decide), rds]; rfl
    · unfold rdB; rw [rdf (by decide), rdf (by decide), rdf (by decide), rdw (by omega), rds]; rfl
    · have hc : c = 0 := Nat.le_zero.mp hc
      rw [hc]
      unfold rdB; rw [rdw (by omega), rdw (by omega), rdw (by omega), rds]; rfl
    · unfold rdB; rw [rdf (by decide), rdf (by decide), rds]; rfl
    · unfold rdB; rw [rdf (by decide), rds]; rfl
    · unfold rdB; rw [rds]; rfl
  have hrd := jo_decls (N := N) (p := p) (w := w) (T := T) (L := lexL g T) (g := g) (q2 := 518) (q3 := nI T) hN (lexL g T).length (fun _ _ => 0) (fun _ _ => []) (fun _ _ => 0) 0 0 A3 (rdB B1 w) N N 0 (by omega) (by have := hLx.2.1; have := hLx.2.2.1; omega) (by have := hLx.2.1; have := hLx.2.2.1; omega) (Nat.le_refl _) hUA hUB (WU_0 hp) ⟨⟨fun s hs => absurd hs (Nat.not_lt_zero _), rfl⟩, NMQ.z⟩ (by omega) (fun s hs => absurd hs (Nat.not_lt_zero _))
  rw [← eA, ← eB] at hrd
  have hll := hLx.2.1
  have hsd : ∀ a f, SRA p a f = false → SD1 p a f = false := fun a f h => (SRA_o a f h).1
  rcases hrd with ⟨A', B', k, p0, r1, r2, r3, r4, r5, r6, r7, r8⟩ | ⟨A', B', r1, r2, r3, r4, r5, r6⟩
  · exact Or.inl ⟨A', B', k, p0, r1, r2, r3, r4, r5, (hxA.tr (r6.mono hsd (Nat.le_refl _))).mono (fun _ _ h => h) (by omega), hsB.tr (r7.mono (fun a f z => Or.inl z)), r8, by rw [r7.1 _ _ (by unfold SRd; omega)]; exact h37'⟩
  · refine Or.inr ⟨A', B', r1, r2, (hxA.tr (r3.mono hsd (Nat.le_refl _))).mono (fun _ _ h => h) (by omega), hsB.tr (r4.mono (fun a f z => Or.inl z)), r5, ?_, r6⟩
    obtain ⟨E, Nm, Pv, cs, z⟩ := r6
    exact z.2.2.2.2.2.1.2
end Par
