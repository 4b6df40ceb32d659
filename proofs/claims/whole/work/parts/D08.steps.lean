/-! ===== steps of a body on both sides ===== -/
section Par
variable {N p w T : Nat} {L : List (Nat × Nat × Int32 × Bool × Nat)} {g : Nat → Nat} {E : Nat → Nat → Nat} {Nm : Nat → Nat → List Nat} {Pv : Nat → Nat → Int32} {nL lc dp : Nat} {ln : Nat → List Nat} {lk lf : Nat → Nat} {hd : Nat → Int32}
theorem BoA.sl {A A' : Hp} {k cs : Nat} (h : BoA A p E nL lc dp ln lk lf hd cs) (hx : exA SL k A A') (hl : 626 ≤ A.sh.length) (hC : (CX p E Nm nL lc dp ln lk lf hd)) : BoA A' p E nL lc dp ln lk lf hd cs := by
  obtain ⟨h1, h2, h3, h4, h5, h6, h7, h8, h9⟩ := h
  obtain ⟨⟨w1, w2, w3, w4, w5, w6, w7, w8, w9, w10, w11, w12, w13, w14, w15⟩, hp, c3, c4, c5, c6, c7, c8, c9⟩ := hC
  have d : ∀ a f, a < 626 → a ≠ 1 → A'.D a f = A.D a f ∧ A'.P a f = A.P a f := fun a f ha hn => hx.2.2.2 a f (by omega) (decide_eq_false (by omega))
  refine ⟨by rw [(d 9 1 (by omega) (by omega)).2]; exact h1, by rw [(d 9 2 (by omega) (by omega)).1]; exact h2, by rw [(d 9 3 (by omega) (by omega)).1]; exact h3, by rw [(d 9 5 (by omega) (by omega)).1]; exact h4, by rw [(d 9 6 (by omega) (by omega)).1]; exact h5, by rw [(d p 1 (by omega) (by omega)).1]; exact h6, by rw [(d p 17 (by omega) (by omega)).1]; exact h7, fun k hk => ?_, fun l hl => by rw [(d 10 l (by omega) (by omega)).1]; exact h9 l hl⟩
  obtain ⟨a1, a2, a3, a4⟩ := h8 k hk
  exact ⟨hx.nmd SL_lt (decide_eq_false (by omega)) (by omega) a1, by rw [(d _ 1 (by omega) (by omega)).1]; exact a2, by rw [(d _ 2 (by omega) (by omega)).1]; exact a3, by rw [(d _ 3 (by omega) (by omega)).1]; exact a4⟩
theorem JA.sl {A A' : Hp} {k i j cs : Nat} (h : (JA p T L g E Nm Pv nL lc dp ln lk lf hd i cs A)) (hx : exA SL k A A') (hC : (CX p E Nm nL lc dp ln lk lf hd)) (hl : LA A' L T g j) : (JA p T L g E Nm Pv nL lc dp ln lk lf hd j cs A') := by
  have hle := h.1.1.1.len
  exact ⟨hl, h.2.1.ex (hx.mono SL_SBo (Nat.le_refl _)) hC.1 hC.2.1 hle, h.2.2.sl hx hle hC⟩
theorem JA.adv {A : Hp} {i cs : Nat} (h : (JA p T L g E Nm Pv nL lc dp ln lk lf hd i cs A)) (hC : (CX p E Nm nL lc dp ln lk lf hd)) (hi : i + 1 < L.length) : (JA p T L g E Nm Pv nL lc dp ln lk lf hd (i + 1) cs (advA A L i)) := h.sl adv_ex hC (adv_LA h.1 hi)
theorem JB.sD {B : Hp} {i a f : Nat} {v : Int32} (h : (JB w T L g E Nm Pv nL lc dp ln lk lf hd i B)) (ha : a = w + 7) : (JB w T L g E Nm Pv nL lc dp ln lk lf hd i (B.sD a f v)) := by
  obtain ⟨⟨t1, t2, t3, t4, t5, t6⟩, e, b1, b2, b3, b4⟩ := h
  subst ha
  refine ⟨⟨t1.sD (by omega) (by omega), fun j hj => ?_, by rw [rdw (by omega)]; exact t3, by rw [rdw (by omega)]; exact t4, t5, t6⟩, e.ex (same.rf.sD (by unfold SRo; omega)), by rw [rdw (by omega)]; exact b1, by rw [rdw (by omega)]; exact b2, by rw [rdw (by omega)]; exact b3, fun k hk => ?_⟩
  · rw [rdw (by omega), rdw (by omega), rdw (by omega), rdw (by omega), rdw (by omega)]
    exact t2 j hj
  · obtain ⟨⟨u, u1, u2⟩, u3, u4⟩ := b4 k hk
    refine ⟨⟨u, by rw [rdw (by omega)]; exact u1, u2.ex ?_ ?_ ?_⟩, by rw [rdw (by omega)]; exact u3, by rw [rdw (by omega)]; exact u4⟩ <;> (funext z; rw [rdw (by omega)])
/-- a NAME's number is noted -/
theorem JB.nu {B : Hp} {i f : Nat} {v : Int32} (h : (JB w T L g E Nm Pv nL lc dp ln lk lf hd i B)) (hf : tkk L f = 2) : (JB w T L g E Nm Pv nL lc dp ln lk lf hd i (B.sD (w + 5) f v)) := by
  obtain ⟨⟨t1, t2, t3, t4, t5, t6⟩, e, b1, b2, b3, b4⟩ := h
  refine ⟨⟨t1.sD (by omega) (by omega), fun j hj => ?_, by rw [rdw (by omega)]; exact t3, by rw [rdw (by omega)]; exact t4, t5, t6⟩, e.ex (same.rf.sD (by unfold SRo; omega)), by rw [rdw (by omega)]; exact b1, by rw [rdw (by omega)]; exact b2, by rw [rdw (by omega)]; exact b3, fun k hk => ?_⟩
  · rw [rdw (by omega), rdw (by omega), rdw (by omega), rdw (by omega)]
    obtain ⟨m1, m2, m3, m4, m5⟩ := t2 j hj
    refine ⟨m1, m2, m3, m4, fun z z2 => ?_⟩
    rw [rdf (fun q => by rw [q] at z; omega)]
    exact m5 z z2
  · obtain ⟨⟨u, u1, u2⟩, u3, u4⟩ := b4 k hk
    refine ⟨⟨u, by rw [rdw (by omega)]; exact u1, u2.ex ?_ ?_ ?_⟩, by rw [rdw (by omega)]; exact u3, by rw [rdw (by omega)]; exact u4⟩ <;> (funext z; rw [rdw (by omega)])
theorem JB.nx {B : Hp} {i : Nat} (h : (JB w T L g E Nm Pv nL lc dp ln lk lf hd i B)) (hi : i + 1 < L.length) : (JB w T L g E Nm Pv nL lc dp ln lk lf hd (i + 1) (B.sD w 11 (nI (i + 1)))) := by
  obtain ⟨t, e, b1, b2, b3, b4⟩ := h
  refine ⟨t.nx hi, e.ex (same.rf.sD (by unfold SRo; omega)), by rw [rdf (by decide)]; exact b1, by rw [rdf (by decide)]; exact b2, by rw [rdf (by decide)]; exact b3, fun k hk => ?_⟩
  obtain ⟨⟨u, u1, u2⟩, u3, u4⟩ := b4 k hk
  refine ⟨⟨u, by rw [rdw (by omega)]; exact u1, u2.ex ?_ ?_ ?_⟩, by rw [rdw (by omega)]; exact u3, by rw [rdw (by omega)]; exact u4⟩ <;> (funext z; rw [rdw (by omega)])
/-! code -/
def addA (A : Hp) (p cs : Nat) (v : Int32) : Hp := (A.sD (p + 191) cs v).sD p 17 (nI (cs + 1))
theorem add_ex {A : Hp} {p n cs : Nat} {v : Int32} : exA (SBo p n) 0 A (addA A p cs v) := (exA.rf.sD (decide_eq_true (by omega))).sD (decide_eq_true (by omega))
theorem ev_add {A : Hp} {i cs : Nat} {v : Int32} (h : (JA p T L g E Nm Pv nL lc dp ln lk lf hd i cs A)) (hP : isP A p) (hc : cs < 12000) : F_Program_add N p v A = some (nI cs, addA A p cs v) := by
  have h7 := h.2.2.2.2.2.2.2.2.1
  unfold F_Program_add
  rw [ck_t (PrS hP), bnd_t, h7, if_neg (show ¬ (12000 : Int32) ≤ nI cs from nI_ge (b := 12000) hc (by decide)), rf_t (PrP_16 hP), bnd_t, ar_t (PrA_16 hP), wrI hc (by decide), bnd_t, rdw (by omega), h7, nI_1, bnd_t, bnd_t, rds, nI_m]
  rfl
theorem JA.add {A : Hp} {i cs : Nat} {v : Int32} (h : (JA p T L g E Nm Pv nL lc dp ln lk lf hd i cs A)) (hC : (CX p E Nm nL lc dp ln lk lf hd)) : (JA p T L g E Nm Pv nL lc dp ln lk lf hd i (cs + 1) (addA A p cs v)) := by
  have hle := h.1.1.1.len
  obtain ⟨hl, he, b1, b2, b3, b4, b5, b6, b7, b8, b9⟩ := h
  obtain ⟨hE, hp, c3, c4, c5, c6, c7, c8, c9⟩ := hC
  have h56 : E 0 0 ≤ 56 := hE.2.2.2.2.2.2.2.2.2.2.2.2.2.1
  have hx := add_ex (A := A) (p := p) (n := E 0 0) (cs := cs) (v := v)
  have nn : ∀ a n, a ≠ p → a ≠ p + 191 → nmd A a n → nmd (addA A p cs v) a n := fun a n h1 h2 hn => by
    obtain ⟨s, s1, s2, s3, s4⟩ := hn
    obtain ⟨t1, t2⟩ := hx.str (SBo_lt (by omega)) s2 s3 s4
    exact ⟨s, s1, t1, s3, t2⟩
  refine ⟨?_, he.ex hx hE hp hle, b1, ?_, ?_, ?_, ?_, ?_, ?_, fun k hk => ?_, fun l hl => ?_⟩
  · refine hl.ex ((exA.rf.sD (S := fun a f => decide ((a = p ∧ f = 17) ∨ a = p + 191)) (decide_eq_true (by omega))).sD (decide_eq_true (by omega))) ?_ (decide_eq_false (by omega)) (decide_eq_false (by omega)) (decide_eq_false (by omega)) (decide_eq_false (by omega))
    refine ⟨?_, fun f => decide_eq_false (by omega), fun f => decide_eq_false (by omega), fun f => decide_eq_false (by omega), fun f => decide_eq_false (by omega), fun f => decide_eq_false (by omega), decide_eq_false (by omega), decide_eq_false (by omega)⟩
    rcases hp with rfl | rfl
    · decide +kernel
    · decide +kernel
  · unfold addA; rw [rdw (by omega), rdw (by omega)]; exact b2
  · unfold addA; rw [rdw (by omega), rdw (by omega)]; exact b3
  · unfold addA; rw [rdw (by omega), rdw (by omega)]; exact b4
  · unfold addA; rw [rdw (by omega), rdw (by omega)]; exact b5
  · unfold addA; rw [rdf (by omega), rdw (by omega)]; exact b6
  · unfold addA; rw [rds]
  · obtain ⟨a1, a2, a3, a4⟩ := b8 k hk
    refine ⟨nn _ _ (by omega) (by omega) a1, ?_, ?_, ?_⟩ <;> (unfold addA; rw [rdw (by omega), rdw (by omega)]; assumption)
  · unfold addA; rw [rdw (by omega), rdw (by omega)]; exact b9 l hl
theorem JA.pP {A : Hp} {i cs : Nat} (h : (JA p T L g E Nm Pv nL lc dp ln lk lf hd i cs A)) (hC : (CX p E Nm nL lc dp ln lk lf hd)) : isP A p := by
  rcases hC.2.1 with rfl | rfl
  · exact gr_P133 h.1.1.1
  · exact gr_P325 h.1.1.1
theorem code_add {A : Hp} {p cs x : Nat} {v : Int32} : (addA A p cs v).D (p + 191) x = if x = cs then v else A.D (p + 191) x := by
  unfold addA
  rw [rdw (by omega)]
  by_cases h : x = cs
  · subst h; rw [rds, if_pos rfl]
  · rw [rdf h, if_neg h]
/-! taking a token -/
theorem jo_take {A B : Hp} {i cs k : Nat} (ha : (JA p T L g E Nm Pv nL lc dp ln lk lf hd i cs A)) (hb : (JB w T L g E Nm Pv nL lc dp ln lk lf hd i B)) (hC : (CX p E Nm nL lc dp ln lk lf hd)) (hk : kvd k = true) (h2 : 2 ≤ k) : (Out (SBo p (E 0 0)) (SRo w) w L i A B (F_Lexer_take N 1 (nI k) A) (F_MText_takes N w (nI (tyK k)) B) (fun j _ A' _ B' => j = i + 1 ∧ tkk L i = k ∧ A' = advA A L i ∧ B' = B.sD w 11 (nI (i + 1)) ∧ (JA p T L g E Nm Pv nL lc dp ln lk lf hd (i + 1) cs A') ∧ (JB w T L g E Nm Pv nL lc dp ln lk lf hd (i + 1) B'))) := by
  have hi := ha.1.2.2.2.2.2.2.1
  have hk' := of_decide_eq_true hk
  by_cases q : tkk L i = k
  · have hn := hb.1.gt (by omega)
    rw [ev_take ha.1 q h2, ev_takes hb.1 hk, if_pos q]
    exact Or.inr ⟨(), _, (), _, i + 1, rfl, rfl, by omega, hn, adv_ex.mono SL_SBo (by omega), same.rf.sD (by unfold SRo; omega), rfl, q, rfl, rfl, ha.adv hC hn, hb.nx hn⟩
  · rw [ev_take_no ha.1 q (by omega), ev_takes hb.1 hk, if_neg q]
    exact Out.no (k := 1) hb.1 (by decide) (by decide) hi (hb.1.fail (by decide) (by decide)) SRo_fail
/-! a name -/
theorem jo_name {A B : Hp} {i cs : Nat} (ha : (JA p T L g E Nm Pv nL lc dp ln lk lf hd i cs A)) (hb : (JB w T L g E Nm Pv nL lc dp ln lk lf hd i B)) (hC : (CX p E Nm nL lc dp ln lk lf hd)) (hN : 100 ≤ N) : (Out (SBo p (E 0 0)) (SRo w) w L i A B (F_Lexer_takeName N 1 A) (F_MText_name N w B) (fun j v A' y B' => j = i + 1 ∧ tkk L i = 2 ∧ y = nI i ∧ B' = B.sD w 11 (nI (i + 1)) ∧ (JA p T L g E Nm Pv nL lc dp ln lk lf hd (i + 1) cs A') ∧ (JB w T L g E Nm Pv nL lc dp ln lk lf hd (i + 1) B') ∧ (∀ x, A'.D (p + 191) x = A.D (p + 191) x) ∧ exA SL 1 A A' ∧ ∃ s, v = some s ∧ strA A' s (nmT g L i) ∧ 626 ≤ s ∧ ∀ b, A'.P s 0 = .ref b → 626 ≤ b)) := by
  have hi := ha.1.2.2.2.2.2.2.1
  have hle := ha.1.1.1.len
  by_cases q : tkk L i = 2 ∧ tko L i = false
  · have hn := hb.1.gt (by omega)
    obtain ⟨A', s, e1, e2, e3, e4, e5, e6, e7⟩ := ev_takeName ha.1 q.1 q.2 hN
    rw [e1, ev_name hb.1, if_pos q.1, if_neg (by rw [q.2]; decide)]
    refine Or.inr ⟨some s, A', _, _, i + 1, rfl, rfl, by omega, hn, e3.mono SL_SBo (by omega), same.rf.sD (by unfold SRo; omega), rfl, q.1, rfl, rfl, ha.sl e3 hC e2, hb.nx hn, fun x => ?_, e3, s, rfl, e4, e5, e6⟩
    have hp := hC.2.1
    exact (e3.2.2.2 (p + 191) x (by omega) (decide_eq_false (by omega))).1
  · rw [ev_takeName_no ha.1 q, ev_name hb.1]
    by_cases q1 : tkk L i = 2
    · have q2 : tko L i = true := by
        cases z : tko L i
        · exact absurd ⟨q1, z⟩ q
        · rfl
      have hn := hb.1.gt (by omega)
      rw [if_pos q1, if_pos q1, if_pos q2]
      exact Out.no (k := 2) hb.1 (by decide) (by decide) hi ((hb.1.nx hn).fail (by decide) (by decide)) ((same.rf.sD (by unfold SRo; omega)).tr SRo_fail)
    · rw [if_neg q1, if_neg q1]
      exact Out.no (k := 1) hb.1 (by decide) (by decide) hi (hb.1.fail (by decide) (by decide)) SRo_fail
/-! what a name stands for -/
/-- all names that are known: things, then locals -/
def kno (E : Nat → Nat → Nat) (Nm : Nat → Nat → List Nat) (ln : Nat → List Nat) (i : Nat) : List Nat := if i < E 0 0 then Nm 1 i else ln (i - E 0 0)
theorem ev_fnd {A : Hp} {i cs s : Nat} {n : List Nat} (ha : (JA p T L g E Nm Pv nL lc dp ln lk lf hd i cs A)) (hC : (CX p E Nm nL lc dp ln lk lf hd)) (hs : strA A s n) (hN : 100 ≤ N) : F_Program_find N p s A = some ((match fnm (Nm 1) n (E 0 0) 0 with | some k => some k | none => (fnm ln n nL 0).map (E 0 0 + ·)).map (p + 2 + ·), A) := by
  obtain ⟨hl, he, b1, b2, b3, b4, b5, b6, b7, b8, b9⟩ := ha
  have hP : isP A p := JA.pP ⟨hl, he, b1, b2, b3, b4, b5, b6, b7, b8, b9⟩ hC
  have h56 : E 0 0 ≤ 56 := hC.1.2.2.2.2.2.2.2.2.2.2.2.2.2.1
  have h12 : nL ≤ 12 := hC.2.2.2.1
  rw [ev_find (f := kno E Nm ln) hP b6 (by omega) hs (fun i hi => ?_) hN]
  · have e := fnm_app (f := kno E Nm ln) (h := Nm 1) (n := n) (a := E 0 0) (b := nL) (fun i hi => by unfold kno; rw [if_pos hi]) (E 0 0) 0 (by omega)
    have e2 := fnm_sh (f := kno E Nm ln) (h := ln) (n := n) (a := E 0 0) (fun i => by unfold kno; rw [if_neg (by omega), Nat.add_sub_cancel_left]) nL 0
    rw [e, ← e2]
    rfl
  · unfold kno
    by_cases q : i < E 0 0
    · rw [if_pos q]; exact (he.1 i q).1
    · rw [if_neg q]
      have := (b8 (i - E 0 0) (by omega)).1
      rw [show E 0 0 + (i - E 0 0) = i by omega] at this
      exact this
theorem ev_ix {B : Hp} {i t : Nat} {n : List Nat} (hb : (JB w T L g E Nm Pv nL lc dp ln lk lf hd i B)) (hC : (CX p E Nm nL lc dp ln lk lf hd)) (ht : tokN B w t n) (hN : 7000 ≤ N) : F_MText_index N w (nI t) B = some (oNI (fnm (Nm 1) n (E 0 0) 0), B) := by
  have h56 : E 0 0 ≤ 56 := hC.1.2.2.2.2.2.2.2.2.2.2.2.2.2.1
  exact ev_index hb.1.1.1 hb.2.1.1.1 h56 ht (fun k hk => (hb.2.1.1.2 k hk).1) hN
theorem ev_lc {B : Hp} {i t : Nat} {n : List Nat} (hb : (JB w T L g E Nm Pv nL lc dp ln lk lf hd i B)) (hC : (CX p E Nm nL lc dp ln lk lf hd)) (ht : tokN B w t n) (hN : 7000 ≤ N) : F_MText_local N w (nI t) B = some (oNI (fnm ln n nL 0), B) := ev_local hb.1.1.1 hb.2.2.1 hC.2.2.2.1 ht (fun k hk => (hb.2.2.2.2.2 k hk).1) hN
theorem no_both {n : List Nat} {k l : Nat} (hC : (CX p E Nm nL lc dp ln lk lf hd)) (h1 : fnm (Nm 1) n (E 0 0) 0 = some k) (h2 : fnm ln n nL 0 = some l) : False := by
  have a := fnm_bd _ _ _ h1
  have b := fnm_bd _ _ _ h2
  exact hC.2.2.2.2.2.2.2.1 k l (by omega) (by omega) (a.2.2.trans b.2.2.symm)
end Par
