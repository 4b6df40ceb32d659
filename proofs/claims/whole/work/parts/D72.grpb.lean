/-! ===== groups, reference ===== -/
section Par
variable {N p w T : Nat} {L : List (Nat × Nat × Int32 × Bool × Nat)} {g : Nat → Nat} {E : Nat → Nat → Nat} {Nm : Nat → Nat → List Nat} {Pv : Nat → Nat → Int32} {nL lc dp : Nat} {ln : Nat → List Nat} {lk lf : Nat → Nat} {hd : Nat → Int32}
theorem ev_g20 {E : Nat → Nat → Nat} {B : Hp} {s gg b : Nat} {kq : Int32 → Int32 → Int32 → Hp → Option (Unit × Hp)} (hT : isT B w) (hs : s < 16) (hr : ∀ x, x ≤ s → B.D (w + 25) x = nI (E 22 x) ∧ B.D (w + 21) x = nI (E 18 x) ∧ B.D (w + 23) x = nI (E 20 x) ∧ B.D (w + 24) x = nI (E 21 x)) (hw : ∀ x, x ≤ s → E 18 x < 65536 ∧ E 20 x < 65536 ∧ E 21 x < 65536 ∧ E 22 x < 65536) (hgg : gg ≤ 16) :
    ∀ M o fu (jn : Bool), o + M = s → M < fu → b ≤ o → jn = ! (List.range o).any (fun o => decide (b ≤ o) && apt E s o) →
      B_MText_groupsThem_20 N w kq fu (nI gg) (nI b) (nI s) (bI jn) (nI o) B = if (List.range s).any (fun o => decide (b ≤ o) && apt E s o) then B_MText_groupsThem_132 N w kq (nI (gg + 1)) (nI s) (nI s) B else B_MText_groupsThem_132 N w kq (nI gg) (nI b) (nI s) B := by
  intro M
  induction M with
  | zero =>
    intro o fu jn ho hfu hbo hjn
    obtain ⟨fu, rfl⟩ : ∃ z, fu = z + 1 := ⟨fu - 1, by omega⟩
    rw [B_MText_groupsThem_20, if_pos (show nI s ≤ nI o from nI_le (by omega) (by omega)), hjn, show o = s by omega]
    cases (List.range s).any (fun o => decide (b ≤ o) && apt E s o)
    · rw [if_neg (show ¬ bI (! false) = 0 by decide), if_neg (by decide)]
    · rw [if_pos (show bI (! true) = 0 from rfl), if_pos rfl, nI_1]
  | succ M ih =>
    intro o fu jn ho hfu hbo hjn
    obtain ⟨fu, rfl⟩ : ∃ z, fu = z + 1 := ⟨fu - 1, by omega⟩
    rw [B_MText_groupsThem_20, if_neg (show ¬ nI s ≤ nI o from nI_ge (by omega) (by omega))]
    unfold B_MText_groupsThem_113 B_MText_groupsThem_114
    cases jn
    · rw [if_pos (show bI false = 0 from rfl), nI_1]
      exact ih (o + 1) fu false (by omega) (by omega) (by omega) (by rw [any_s]; cases hq : (List.range o).any (fun o => decide (b ≤ o) && apt E s o); rw [hq] at hjn; exact absurd hjn (by decide); rfl)
    · obtain ⟨a1, a2, a3, a4⟩ := hr s (Nat.le_refl _)
      obtain ⟨b1, b2, b3, b4⟩ := hr o (by omega)
      obtain ⟨c1, c2, c3, c4⟩ := hw s (Nat.le_refl _)
      obtain ⟨d1, d2, d3, d4⟩ := hw o (by omega)
      have hq : (List.range o).any (fun o => decide (b ≤ o) && apt E s o) = false := by
        cases hq : (List.range o).any (fun o => decide (b ≤ o) && apt E s o)
        · rfl
        · rw [hq] at hjn; exact absurd hjn (by decide)
      have nxt : ∀ v : Bool, v = ! apt E s o → v = ! (List.range (o + 1)).any (fun o => decide (b ≤ o) && apt E s o) := fun v hv => by
        rw [any_s, hq, decide_eq_true hbo, Bool.false_or, Bool.true_and]; exact hv
      rw [if_neg (show ¬ bI true = 0 by decide), ck_t (TS hT), rf_t (TP_34 hT), ar_t (TA_34 hT), rdI hs (by decide), a1]
      by_cases q1 : E 22 s / 2 ^ o % 2 = 1
      · rw [if_neg (fun z => (nI_bit0 (by omega) (by omega)).mp z q1), nI_1]
        exact ih (o + 1) fu false (by omega) (by omega) (by omega) (nxt false (by unfold apt; rw [decide_eq_true (Or.inl q1)]; rfl))
      · rw [if_pos ((nI_bit0 (by omega) (by omega)).mpr q1), rf_t (TP_32 hT), ar_t (TA_32 hT), rdI hs (by decide), a3, rf_t (TP_30 hT), ar_t (TA_30 hT), rdI (show o < 16 by omega) (by decide), b2, rf_t (TP_32 hT), ar_t (TA_32 hT), rdI (show o < 16 by omega) (by decide), b3, rf_t (TP_33 hT), ar_t (TA_33 hT), rdI (show o < 16 by omega) (by decide), b4, nI_or, nI_or, rf_t (TP_32 hT), ar_t (TA_32 hT), rdI (show o < 16 by omega) (by decide), b3, rf_t (TP_30 hT), ar_t (TA_30 hT), rdI hs (by decide), a2, rf_t (TP_32 hT), ar_t (TA_32 hT), rdI hs (by decide), a3, rf_t (TP_33 hT), ar_t (TA_33 hT), rdI hs (by decide), a4, nI_or, nI_or, nI_1]
        simp only [nI_an c2, nI_an d2]
        by_cases q2 : (E 20 s &&& ((E 18 o ||| E 20 o) ||| E 21 o)) = 0
        · rw [if_pos q2]
          by_cases q3 : (E 20 o &&& ((E 18 s ||| E 20 s) ||| E 21 s)) = 0
          · rw [if_pos q3]
            exact ih (o + 1) fu true (by omega) (by omega) (by omega) (nxt true (by unfold apt; rw [decide_eq_false (fun z => by rcases z with z | z | z; exact q1 z; exact z q2; exact z q3)]; rfl))
          · rw [if_neg q3]
            exact ih (o + 1) fu false (by omega) (by omega) (by omega) (nxt false (by unfold apt; rw [decide_eq_true (Or.inr (Or.inr q3))]; rfl))
        · rw [if_neg q2]
          exact ih (o + 1) fu false (by omega) (by omega) (by omega) (nxt false (by unfold apt; rw [decide_eq_true (Or.inr (Or.inl q2))]; rfl))
theorem ev_groups {E : Nat → Nat → Nat} (hN : 7000 ≤ N) (h16 : E 17 0 ≤ 16) (hw : ∀ x, x < E 17 0 → E 18 x < 65536 ∧ E 20 x < 65536 ∧ E 21 x < 65536 ∧ E 22 x < 65536) :
    ∀ M s fu B, s + M = E 17 0 → M < fu → isT B w → B.D w 29 = nI (E 17 0) → (∀ x, x < E 17 0 → B.D (w + 25) x = nI (E 22 x) ∧ B.D (w + 21) x = nI (E 18 x) ∧ B.D (w + 23) x = nI (E 20 x) ∧ B.D (w + 24) x = nI (E 21 x)) → ∃ B', B_MText_groupsThem_6 N w fu (nI (grp E s).1) (nI (grp E s).2) (nI s) B = some ((), B') ∧ same (fun a f => a = w + 27 ∧ s ≤ f) B B' ∧ ∀ x, s ≤ x → x < E 17 0 → B'.D (w + 27) x = nI (grp E (x + 1)).1 := by
  intro M
  induction M with
  | zero =>
    intro s fu B hs hfu hT h29 hr
    obtain ⟨fu, rfl⟩ : ∃ z, fu = z + 1 := ⟨fu - 1, by omega⟩
    refine ⟨B, ?_, same.rf, fun x h1 h2 => absurd h2 (by omega)⟩
    rw [B_MText_groupsThem_6, ck_t (TS hT), bnd_t, h29, if_pos (show nI (E 17 0) ≤ nI s from nI_le (by omega) (by omega))]
  | succ M ih =>
    intro s fu B hs hfu hT h29 hr
    obtain ⟨fu, rfl⟩ : ∃ z, fu = z + 1 := ⟨fu - 1, by omega⟩
    have hgl := grp_le E s
    have hgl1 := grp_le E (s + 1)
    have e : grp E (s + 1) = if (List.range s).any (fun o => decide ((grp E s).2 ≤ o) && apt E s o) then ((grp E s).1 + 1, s) else grp E s := rfl
    have h20 := ev_g20 (N := N) (w := w) (E := E) (B := B) (s := s) (gg := (grp E s).1) (b := (grp E s).2) (kq := fun l1 l2 l3 H => B_MText_groupsThem_6 N w fu l1 l2 l3 H) hT (by omega) (fun x hx => hr x (by omega)) (fun x hx => hw x (by omega)) (by omega) (s - (grp E s).2) (grp E s).2 N true (by omega) (by omega) (Nat.le_refl _) (by
      have : (List.range (grp E s).2).any (fun o => decide ((grp E s).2 ≤ o) && apt E s o) = false := by
        rw [Bool.eq_false_iff]
        intro z
        rw [List.any_eq_true] at z
        obtain ⟨x, hx1, hx2⟩ := z
        have := List.mem_range.mp hx1
        rw [decide_eq_false (by omega), Bool.false_and] at hx2
        exact absurd hx2 (by decide)
      rw [this]; rfl)
    have h132 : ∀ a b : Nat, (a, b) = grp E (s + 1) → ∃ B', B_MText_groupsThem_132 N w (fun l1 l2 l3 H => B_MText_groupsThem_6 N w fu l1 l2 l3 H) (nI a) (nI b) (nI s) B = some ((), B') ∧ same (fun a f => a = w + 27 ∧ s ≤ f) B B' ∧ ∀ x, s ≤ x → x < E 17 0 → B'.D (w + 27) x = nI (grp E (x + 1)).1 := by
      intro a b hab
      have ha : a = (grp E (s + 1)).1 := by rw [← hab]
      have hb : b = (grp E (s + 1)).2 := by rw [← hab]
      obtain ⟨B', e1, e2, e3⟩ := ih (s + 1) fu (B.sD (w + 27) s (nI a)) (by omega) (by omega) hT (by rw [rdw (by omega)]; exact h29) (fun x hx => by rw [rdw (by omega), rdw (by omega), rdw (by omega), rdw (by omega)]; exact hr x hx)
      refine ⟨B', ?_, (same.rf.sD (by omega)).tr (e2.mono (fun a f z => by omega)), fun x h1 h2 => ?_⟩
      · unfold B_MText_groupsThem_132
        rw [ck_t (TS hT), rf_t (TP_36 hT), ar_t (TA_36 hT), wrI (show s < 16 by omega) (by decide), nI_1]
        rw [ha, hb] at *
        exact e1
      · by_cases z : x = s
        · rw [z, e2.1 _ _ (by omega), rds, ha]
        · exact e3 x (by omega) h2
    rw [B_MText_groupsThem_6, ck_t (TS hT), bnd_t, h29, if_neg (show ¬ nI (E 17 0) ≤ nI s from nI_ge (by omega) (by omega))]
    rw [show B_MText_groupsThem_20 N w (fun l1 l2 l3 H => B_MText_groupsThem_6 N w fu l1 l2 l3 H) N (nI (grp E s).1) (nI (grp E s).2) (nI s) 1 (nI (grp E s).2) B = _ from h20]
    by_cases z : (List.range s).any (fun o => decide ((grp E s).2 ≤ o) && apt E s o) = true
    · rw [if_pos z]
      exact h132 _ _ (by rw [e, if_pos z])
    · rw [if_neg z]
      exact h132 _ _ (by rw [e, if_neg z])
end Par
